theorem tb_d {c : ByteArray} {t : List (Nat × Instr × Nat)} (h : (t.all fun q => decide (decode c q.1 = .ok q.2)) = true) (k : Nat) (q : Nat × Instr × Nat) (hk : t[k]? = some q) : decode c q.1 = .ok q.2 :=
  of_decide_eq_true (List.all_eq_true.mp h q (by first | exact List.mem_of_getElem? hk | exact List.getElem?_mem hk))
/-! ===== BEGIN words of one list among another's, by their places ===== -/
theorem goodIn_r {big : List Cond} (ws : List Cond) (ps : List Nat) (hp : ws = ps.filterMap (fun i => big[i]?)) (h : ws.all goodWord = true) : GoodIn big ws := by
  intro w hw
  have h1 := List.all_eq_true.mp h w hw
  rw [hp] at hw
  obtain ⟨i, -, hi⟩ := List.mem_filterMap.mp hw
  have hm : w ∈ big := by first | exact List.mem_of_getElem? hi | exact List.getElem?_mem hi
  exact ⟨hm, good_of_word h1⟩
theorem goodIn_app {big a b : List Cond} (ha : GoodIn big a) (hb : GoodIn big b) : GoodIn big (a ++ b) := fun w h => (List.mem_append.mp h).elim (ha w) (hb w)
theorem goodIn_ca {big a b : List Cond} {c : Cond} (ha : GoodIn big (c :: a)) (hb : GoodIn big b) : GoodIn big (c :: (a ++ b)) := fun w h => (List.mem_cons.mp h).elim (fun e => ha w (List.mem_cons.mpr (Or.inl e))) (fun h => (List.mem_append.mp h).elim (fun h => ha w (List.mem_cons.mpr (Or.inr h))) (hb w))
theorem goodIn_sub {big ws : List Cond} (hm : ∀ w ∈ ws, w ∈ big) (h : ws.all goodWord = true) : GoodIn big ws := fun w hw => ⟨hm w hw, good_of_word (List.all_eq_true.mp h w hw)⟩
/-! ===== END ===== -/

/-! ===== BEGIN printed: names, fields, word lists, decode rows ===== -/
def RX0 : String := "WrongWord$Acts"
def TX0 : u_T := fun k => match k with
  | 0 => ("WrongWord$Acts", "ahead", "[LWrongWord$Moment;", true)
  | 1 => ("WrongWord$Acts", "at", "I", false)
  | _ => ("WrongWord$Acts", "kept", "I", false)
def tyX0 : Nat → FieldType := fun k => match k with
  | 0 => .array (.object "WrongWord$Moment")
  | 1 => .int
  | _ => .int
abbrev wsX00 : List Cond := u_ws RX0 TX0 3
theorem nmX0 : ∀ a, a < 3 → ∀ b, b < 3 → a ≠ b → (TX0 a).2.1 ≠ (TX0 b).2.1 := by decide +kernel
theorem tyX0_ok : ∀ k, k < 3 → parseFieldDescriptor (TX0 k).2.2.1 = some (tyX0 k) := by decide +kernel
abbrev cX0_init : ByteArray := prog_2_method_1_code
def yX0_init : MethodName := ⟨RX0, "<init>", "()V"⟩
abbrev cX0_forget : ByteArray := prog_2_method_2_code
def yX0_forget : MethodName := ⟨RX0, "forget", "()V"⟩
abbrev cX0_keep : ByteArray := prog_2_method_3_code
def yX0_keep : MethodName := ⟨RX0, "keep", "(LWrongWord$Moment;)V"⟩
abbrev cX0_takeBack : ByteArray := prog_2_method_4_code
def yX0_takeBack : MethodName := ⟨RX0, "takeBack", "(LWrongWord$Moment;)Z"⟩
def RX1 : String := "WrongWord$Asks"
def TX1 : u_T := fun k => match k with
  | 0 => ("WrongWord$Asks", "bodies", "[I", true)
  | 1 => ("WrongWord$Asks", "begun", "I", false)
  | 2 => ("WrongWord$Asks", "number", "I", false)
  | 3 => ("WrongWord$Asks", "kind", "I", false)
  | 4 => ("WrongWord$Asks", "fee", "I", false)
  | _ => ("WrongWord$Asks", "took", "I", false)
def tyX1 : Nat → FieldType := fun k => match k with
  | 0 => .array .int
  | 1 => .int
  | 2 => .int
  | 3 => .int
  | 4 => .int
  | _ => .int
abbrev wsX10 : List Cond := u_ws RX1 TX1 6
theorem nmX1 : ∀ a, a < 6 → ∀ b, b < 6 → a ≠ b → (TX1 a).2.1 ≠ (TX1 b).2.1 := by decide +kernel
theorem tyX1_ok : ∀ k, k < 6 → parseFieldDescriptor (TX1 k).2.2.1 = some (tyX1 k) := by decide +kernel
abbrev cX1_init : ByteArray := prog_3_method_1_code
def yX1_init : MethodName := ⟨RX1, "<init>", "()V"⟩
abbrev cX1_isA : ByteArray := prog_3_method_2_code
def yX1_isA : MethodName := ⟨RX1, "isA", "(II)Z"⟩
abbrev cX1_turnTo : ByteArray := prog_3_method_3_code
def yX1_turnTo : MethodName := ⟨RX1, "turnTo", "(IIII)V"⟩
abbrev cX1_answer : ByteArray := prog_3_method_4_code
def yX1_answer : MethodName := ⟨RX1, "answer", "(I)I"⟩
abbrev cX1_sizeBody : ByteArray := prog_3_method_5_code
def yX1_sizeBody : MethodName := ⟨RX1, "sizeBody", "()I"⟩
abbrev cX1_markBody : ByteArray := prog_3_method_6_code
def yX1_markBody : MethodName := ⟨RX1, "markBody", "()I"⟩
abbrev cX1_leave : ByteArray := prog_3_method_7_code
def yX1_leave : MethodName := ⟨RX1, "leave", "(I)V"⟩
abbrev cX1_given : ByteArray := prog_3_method_8_code
def yX1_given : MethodName := ⟨RX1, "given", "(LWrongWord$Asks;II)I"⟩
def RX2 : String := "WrongWord$Gate"
def TX2 : u_T := fun k => match k with
  | 0 => ("WrongWord$Gate", "letters", "[I", true)
  | 1 => ("WrongWord$Gate", "kinds", "[I", true)
  | 2 => ("WrongWord$Gate", "fees", "[I", true)
  | 3 => ("WrongWord$Gate", "now", "LWrongWord$Moment;", true)
  | 4 => ("WrongWord$Gate", "step", "I", false)
  | 5 => ("WrongWord$Gate", "shrove", "I", false)
  | 6 => ("WrongWord$Gate", "words", "I", false)
  | _ => ("WrongWord$Gate", "guards", "I", false)
def tyX2 : Nat → FieldType := fun k => match k with
  | 0 => .array .int
  | 1 => .array .int
  | 2 => .array .int
  | 3 => .object "WrongWord$Moment"
  | 4 => .int
  | 5 => .int
  | 6 => .int
  | _ => .int
abbrev wsX20 : List Cond := u_ws RX2 TX2 8
theorem nmX2 : ∀ a, a < 8 → ∀ b, b < 8 → a ≠ b → (TX2 a).2.1 ≠ (TX2 b).2.1 := by decide +kernel
theorem tyX2_ok : ∀ k, k < 8 → parseFieldDescriptor (TX2 k).2.2.1 = some (tyX2 k) := by decide +kernel
abbrev cX2_init : ByteArray := prog_4_method_1_code
def yX2_init : MethodName := ⟨RX2, "<init>", "()V"⟩
abbrev cX2_become : ByteArray := prog_4_method_2_code
def yX2_become : MethodName := ⟨RX2, "become", "(LWrongWord$Gate;)V"⟩
abbrev cX2_secretBy : ByteArray := prog_4_method_3_code
def yX2_secretBy : MethodName := ⟨RX2, "secretBy", "(IIII)I"⟩
abbrev cX2_secretIn : ByteArray := prog_4_method_4_code
def yX2_secretIn : MethodName := ⟨RX2, "secretIn", "(I)I"⟩
abbrev cX2_distance : ByteArray := prog_4_method_5_code
def yX2_distance : MethodName := ⟨RX2, "distance", "(II)I"⟩
abbrev cX2_lips : ByteArray := prog_4_method_6_code
def yX2_lips : MethodName := ⟨RX2, "lips", "(II)I"⟩
abbrev cX2_guardOn : ByteArray := prog_4_method_7_code
def yX2_guardOn : MethodName := ⟨RX2, "guardOn", "(II)I"⟩
abbrev cX2_isThere : ByteArray := prog_4_method_8_code
def yX2_isThere : MethodName := ⟨RX2, "isThere", "(I)Z"⟩
abbrev cX2_wouldTake : ByteArray := prog_4_method_9_code
def yX2_wouldTake : MethodName := ⟨RX2, "wouldTake", "(IIII)Z"⟩
abbrev cX2_catchesIf : ByteArray := prog_4_method_10_code
def yX2_catchesIf : MethodName := ⟨RX2, "catchesIf", "(IIII)Z"⟩
abbrev cX2_catches : ByteArray := prog_4_method_11_code
def yX2_catches : MethodName := ⟨RX2, "catches", "(III)Z"⟩
abbrev cX2_hoursOf : ByteArray := prog_4_method_12_code
def yX2_hoursOf : MethodName := ⟨RX2, "hoursOf", "(I)I"⟩
abbrev cX2_wordsIn : ByteArray := prog_4_method_13_code
def yX2_wordsIn : MethodName := ⟨RX2, "wordsIn", "(II)I"⟩
abbrev cX2_hoursOpen : ByteArray := prog_4_method_14_code
def yX2_hoursOpen : MethodName := ⟨RX2, "hoursOpen", "(II)I"⟩
abbrev cX2_nightsUntil : ByteArray := prog_4_method_15_code
def yX2_nightsUntil : MethodName := ⟨RX2, "nightsUntil", "(I)I"⟩
abbrev cX2_hourIn : ByteArray := prog_4_method_16_code
def yX2_hourIn : MethodName := ⟨RX2, "hourIn", "(II)I"⟩
abbrev cX2_guardsAgainst : ByteArray := prog_4_method_17_code
def yX2_guardsAgainst : MethodName := ⟨RX2, "guardsAgainst", "(II)I"⟩
abbrev cX2_feeOf : ByteArray := prog_4_method_18_code
def yX2_feeOf : MethodName := ⟨RX2, "feeOf", "(I)I"⟩
abbrev cX2_nearestTo : ByteArray := prog_4_method_19_code
def yX2_nearestTo : MethodName := ⟨RX2, "nearestTo", "(I)I"⟩
def RX3 : String := "WrongWord$Guesses"
def TX3 : u_T := fun k => match k with
  | 0 => ("WrongWord$Guesses", "catching", "[I", true)
  | _ => ("WrongWord$Guesses", "menFor", "[I", true)
def tyX3 : Nat → FieldType := fun k => match k with
  | 0 => .array .int
  | _ => .array .int
abbrev wsX30 : List Cond := u_ws RX3 TX3 2
theorem nmX3 : ∀ a, a < 2 → ∀ b, b < 2 → a ≠ b → (TX3 a).2.1 ≠ (TX3 b).2.1 := by decide +kernel
theorem tyX3_ok : ∀ k, k < 2 → parseFieldDescriptor (TX3 k).2.2.1 = some (tyX3 k) := by decide +kernel
abbrev cX3_init : ByteArray := prog_5_method_1_code
def yX3_init : MethodName := ⟨RX3, "<init>", "()V"⟩
abbrev cX3_agreeing : ByteArray := prog_5_method_2_code
def yX3_agreeing : MethodName := ⟨RX3, "agreeing", "(LWrongWord$Gate;)I"⟩
abbrev cX3_agreesWithTries : ByteArray := prog_5_method_3_code
def yX3_agreesWithTries : MethodName := ⟨RX3, "agreesWithTries", "(LWrongWord$Gate;I)Z"⟩
abbrev cX3_secretsCatching : ByteArray := prog_5_method_4_code
def yX3_secretsCatching : MethodName := ⟨RX3, "secretsCatching", "(LWrongWord$Gate;II)I"⟩
abbrev cX3_leftAtWorst : ByteArray := prog_5_method_5_code
def yX3_leftAtWorst : MethodName := ⟨RX3, "leftAtWorst", "(LWrongWord$Gate;II)I"⟩
abbrev cX3_bestTry : ByteArray := prog_5_method_6_code
def yX3_bestTry : MethodName := ⟨RX3, "bestTry", "(LWrongWord$Gate;I)I"⟩
abbrev cX3_fewestMen : ByteArray := prog_5_method_7_code
def yX3_fewestMen : MethodName := ⟨RX3, "fewestMen", "(LWrongWord$Gate;I)I"⟩
abbrev cX3_menToSplit : ByteArray := prog_5_method_8_code
def yX3_menToSplit : MethodName := ⟨RX3, "menToSplit", "(II)I"⟩
def RX4 : String := "WrongWord$Moment"
def TX4 : u_T := fun k => match k with
  | 0 => ("WrongWord$Moment", "took", "[I", true)
  | 1 => ("WrongWord$Moment", "triedWord", "[I", true)
  | 2 => ("WrongWord$Moment", "triedGuard", "[I", true)
  | 3 => ("WrongWord$Moment", "triedTaken", "[I", true)
  | 4 => ("WrongWord$Moment", "night", "I", false)
  | 5 => ("WrongWord$Moment", "start", "I", false)
  | 6 => ("WrongWord$Moment", "there", "I", false)
  | _ => ("WrongWord$Moment", "tries", "I", false)
def tyX4 : Nat → FieldType := fun k => match k with
  | 0 => .array .int
  | 1 => .array .int
  | 2 => .array .int
  | 3 => .array .int
  | 4 => .int
  | 5 => .int
  | 6 => .int
  | _ => .int
abbrev wsX40 : List Cond := u_ws RX4 TX4 8
theorem nmX4 : ∀ a, a < 8 → ∀ b, b < 8 → a ≠ b → (TX4 a).2.1 ≠ (TX4 b).2.1 := by decide +kernel
theorem tyX4_ok : ∀ k, k < 8 → parseFieldDescriptor (TX4 k).2.2.1 = some (tyX4 k) := by decide +kernel
abbrev cX4_init : ByteArray := prog_6_method_1_code
def yX4_init : MethodName := ⟨RX4, "<init>", "()V"⟩
abbrev cX4_begin : ByteArray := prog_6_method_2_code
def yX4_begin : MethodName := ⟨RX4, "begin", "(I)V"⟩
abbrev cX4_become : ByteArray := prog_6_method_3_code
def yX4_become : MethodName := ⟨RX4, "become", "(LWrongWord$Moment;)V"⟩
abbrev cX4_goBy : ByteArray := prog_6_method_4_code
def yX4_goBy : MethodName := ⟨RX4, "goBy", "()V"⟩
abbrev cX4_addTry : ByteArray := prog_6_method_5_code
def yX4_addTry : MethodName := ⟨RX4, "addTry", "(IIZ)V"⟩
abbrev cX4_tookInAll : ByteArray := prog_6_method_6_code
def yX4_tookInAll : MethodName := ⟨RX4, "tookInAll", "()I"⟩
def RX5 : String := "WrongWord$Row"
def TX5 : u_T := fun k => match k with
  | 0 => ("WrongWord$Row", "items", "[I", true)
  | 1 => ("WrongWord$Row", "lane", "I", false)
  | _ => ("WrongWord$Row", "size", "I", false)
def tyX5 : Nat → FieldType := fun k => match k with
  | 0 => .array .int
  | 1 => .int
  | _ => .int
abbrev wsX50 : List Cond := u_ws RX5 TX5 3
theorem nmX5 : ∀ a, a < 3 → ∀ b, b < 3 → a ≠ b → (TX5 a).2.1 ≠ (TX5 b).2.1 := by decide +kernel
theorem tyX5_ok : ∀ k, k < 3 → parseFieldDescriptor (TX5 k).2.2.1 = some (tyX5 k) := by decide +kernel
abbrev cX5_init : ByteArray := prog_7_method_1_code
def yX5_init : MethodName := ⟨RX5, "<init>", "()V"⟩
abbrev cX5_make : ByteArray := prog_7_method_2_code
def yX5_make : MethodName := ⟨RX5, "make", "(II)V"⟩
abbrev cX5_reaches : ByteArray := prog_7_method_3_code
def yX5_reaches : MethodName := ⟨RX5, "reaches", "(II)Z"⟩
abbrev cX5_findingOf : ByteArray := prog_7_method_4_code
def yX5_findingOf : MethodName := ⟨RX5, "findingOf", "(II)I"⟩
abbrev cX5_put : ByteArray := prog_7_method_5_code
def yX5_put : MethodName := ⟨RX5, "put", "(II)I"⟩
def RX6 : String := "WrongWord$Tape"
def TX6 : u_T := fun k => match k with
  | 0 => ("WrongWord$Tape", "bytes", "[I", true)
  | 1 => ("WrongWord$Tape", "draft", "LWrongWord$Gate;", true)
  | 2 => ("WrongWord$Tape", "length", "I", false)
  | 3 => ("WrongWord$Tape", "fault", "I", false)
  | 4 => ("WrongWord$Tape", "place", "I", false)
  | 5 => ("WrongWord$Tape", "at", "I", false)
  | _ => ("WrongWord$Tape", "value", "I", false)
def tyX6 : Nat → FieldType := fun k => match k with
  | 0 => .array .int
  | 1 => .object "WrongWord$Gate"
  | 2 => .int
  | 3 => .int
  | 4 => .int
  | 5 => .int
  | _ => .int
abbrev wsX60 : List Cond := u_ws RX6 TX6 7
theorem nmX6 : ∀ a, a < 7 → ∀ b, b < 7 → a ≠ b → (TX6 a).2.1 ≠ (TX6 b).2.1 := by decide +kernel
theorem tyX6_ok : ∀ k, k < 7 → parseFieldDescriptor (TX6 k).2.2.1 = some (tyX6 k) := by decide +kernel
abbrev cX6_init : ByteArray := prog_8_method_1_code
def yX6_init : MethodName := ⟨RX6, "<init>", "()V"⟩
abbrev cX6_append : ByteArray := prog_8_method_2_code
def yX6_append : MethodName := ⟨RX6, "append", "(I)Z"⟩
abbrev cX6_read : ByteArray := prog_8_method_3_code
def yX6_read : MethodName := ⟨RX6, "read", "()Z"⟩
abbrev cX6_readLaw : ByteArray := prog_8_method_4_code
def yX6_readLaw : MethodName := ⟨RX6, "readLaw", "()Z"⟩
abbrev cX6_readWord : ByteArray := prog_8_method_5_code
def yX6_readWord : MethodName := ⟨RX6, "readWord", "()Z"⟩
abbrev cX6_wasTold : ByteArray := prog_8_method_6_code
def yX6_wasTold : MethodName := ⟨RX6, "wasTold", "(I)Z"⟩
abbrev cX6_readGuard : ByteArray := prog_8_method_7_code
def yX6_readGuard : MethodName := ⟨RX6, "readGuard", "()Z"⟩
abbrev cX6_kindOf : ByteArray := prog_8_method_8_code
def yX6_kindOf : MethodName := ⟨RX6, "kindOf", "(I)I"⟩
abbrev cX6_readSign : ByteArray := prog_8_method_9_code
def yX6_readSign : MethodName := ⟨RX6, "readSign", "(I)Z"⟩
abbrev cX6_readNumber : ByteArray := prog_8_method_10_code
def yX6_readNumber : MethodName := ⟨RX6, "readNumber", "(I)Z"⟩
abbrev cX6_isFigure : ByteArray := prog_8_method_11_code
def yX6_isFigure : MethodName := ⟨RX6, "isFigure", "(I)Z"⟩
abbrev cX6_here : ByteArray := prog_8_method_12_code
def yX6_here : MethodName := ⟨RX6, "here", "()I"⟩
abbrev cX6_faulty : ByteArray := prog_8_method_13_code
def yX6_faulty : MethodName := ⟨RX6, "faulty", "(I)Z"⟩
def RX7 : String := "WrongWord"
def TX7 : u_T := fun k => match k with
  | 0 => ("WrongWord", "rows", "[LWrongWord$Row;", true)
  | 1 => ("WrongWord", "tape", "LWrongWord$Tape;", true)
  | 2 => ("WrongWord", "gate", "LWrongWord$Gate;", true)
  | 3 => ("WrongWord", "acts", "LWrongWord$Acts;", true)
  | 4 => ("WrongWord", "images", "[LWrongWord$Gate;", true)
  | 5 => ("WrongWord", "guesses", "LWrongWord$Guesses;", true)
  | 6 => ("WrongWord", "asks", "LWrongWord$Asks;", true)
  | 7 => ("WrongWord", "latestFault", "I", false)
  | _ => ("WrongWord", "latestFinding", "I", false)
def tyX7 : Nat → FieldType := fun k => match k with
  | 0 => .array (.object "WrongWord$Row")
  | 1 => .object "WrongWord$Tape"
  | 2 => .object "WrongWord$Gate"
  | 3 => .object "WrongWord$Acts"
  | 4 => .array (.object "WrongWord$Gate")
  | 5 => .object "WrongWord$Guesses"
  | 6 => .object "WrongWord$Asks"
  | 7 => .int
  | _ => .int
abbrev wsX70 : List Cond := u_ws RX7 TX7 9
theorem nmX7 : ∀ a, a < 9 → ∀ b, b < 9 → a ≠ b → (TX7 a).2.1 ≠ (TX7 b).2.1 := by decide +kernel
theorem tyX7_ok : ∀ k, k < 9 → parseFieldDescriptor (TX7 k).2.2.1 = some (tyX7 k) := by decide +kernel
abbrev cX7_init : ByteArray := prog_1_method_1_code
def yX7_init : MethodName := ⟨RX7, "<init>", "()V"⟩
abbrev cX7_row : ByteArray := prog_1_method_2_code
def yX7_row : MethodName := ⟨RX7, "row", "(III)I"⟩
abbrev cX7_set : ByteArray := prog_1_method_3_code
def yX7_set : MethodName := ⟨RX7, "set", "(III)I"⟩
abbrev cX7_copy : ByteArray := prog_1_method_4_code
def yX7_copy : MethodName := ⟨RX7, "copy", "(IIIII)I"⟩
abbrev cX7_drop : ByteArray := prog_1_method_5_code
def yX7_drop : MethodName := ⟨RX7, "drop", "(I)I"⟩
abbrev cX7_feed : ByteArray := prog_1_method_6_code
def yX7_feed : MethodName := ⟨RX7, "feed", "(I)I"⟩
abbrev cX7_gate : ByteArray := prog_1_method_7_code
def yX7_gate : MethodName := ⟨RX7, "gate", "()I"⟩
abbrev cX7_fault : ByteArray := prog_1_method_8_code
def yX7_fault : MethodName := ⟨RX7, "fault", "()I"⟩
abbrev cX7_nights : ByteArray := prog_1_method_9_code
def yX7_nights : MethodName := ⟨RX7, "nights", "(I)I"⟩
abbrev cX7_say : ByteArray := prog_1_method_10_code
def yX7_say : MethodName := ⟨RX7, "say", "(II)I"⟩
abbrev cX7_start : ByteArray := prog_1_method_11_code
def yX7_start : MethodName := ⟨RX7, "start", "(I)I"⟩
abbrev cX7_dismiss : ByteArray := prog_1_method_12_code
def yX7_dismiss : MethodName := ⟨RX7, "dismiss", "(II)I"⟩
abbrev cX7_undo : ByteArray := prog_1_method_13_code
def yX7_undo : MethodName := ⟨RX7, "undo", "()I"⟩
abbrev cX7_letter : ByteArray := prog_1_method_14_code
def yX7_letter : MethodName := ⟨RX7, "letter", "(II)I"⟩
abbrev cX7_like : ByteArray := prog_1_method_15_code
def yX7_like : MethodName := ⟨RX7, "like", "(III)I"⟩
abbrev cX7_guard : ByteArray := prog_1_method_16_code
def yX7_guard : MethodName := ⟨RX7, "guard", "(II)I"⟩
abbrev cX7_tried : ByteArray := prog_1_method_17_code
def yX7_tried : MethodName := ⟨RX7, "tried", "(II)I"⟩
abbrev cX7_secret : ByteArray := prog_1_method_18_code
def yX7_secret : MethodName := ⟨RX7, "secret", "(I)I"⟩
abbrev cX7_taken : ByteArray := prog_1_method_19_code
def yX7_taken : MethodName := ⟨RX7, "taken", "(III)I"⟩
abbrev cX7_safe : ByteArray := prog_1_method_20_code
def yX7_safe : MethodName := ⟨RX7, "safe", "(II)I"⟩
abbrev cX7_open : ByteArray := prog_1_method_21_code
def yX7_open : MethodName := ⟨RX7, "open", "(II)I"⟩
abbrev cX7_next : ByteArray := prog_1_method_22_code
def yX7_next : MethodName := ⟨RX7, "next", "(I)I"⟩
abbrev cX7_agree : ByteArray := prog_1_method_23_code
def yX7_agree : MethodName := ⟨RX7, "agree", "()I"⟩
abbrev cX7_man : ByteArray := prog_1_method_24_code
def yX7_man : MethodName := ⟨RX7, "man", "(I)I"⟩
abbrev cX7_fewest : ByteArray := prog_1_method_25_code
def yX7_fewest : MethodName := ⟨RX7, "fewest", "()I"⟩
abbrev cX7_march : ByteArray := prog_1_method_26_code
def yX7_march : MethodName := ⟨RX7, "march", "(IIII)I"⟩
abbrev cX7_cheap : ByteArray := prog_1_method_27_code
def yX7_cheap : MethodName := ⟨RX7, "cheap", "(III)I"⟩
abbrev cX7_near : ByteArray := prog_1_method_28_code
def yX7_near : MethodName := ⟨RX7, "near", "(II)I"⟩
abbrev cX7_rules : ByteArray := prog_1_method_29_code
def yX7_rules : MethodName := ⟨RX7, "rules", "(IIII)I"⟩
abbrev cX7_fits : ByteArray := prog_1_method_30_code
def yX7_fits : MethodName := ⟨RX7, "fits", "(IIII)I"⟩
abbrev cX7_sure : ByteArray := prog_1_method_31_code
def yX7_sure : MethodName := ⟨RX7, "sure", "(IIII)I"⟩
abbrev cX7_drawn : ByteArray := prog_1_method_32_code
def yX7_drawn : MethodName := ⟨RX7, "drawn", "(III)I"⟩
abbrev cX7_image : ByteArray := prog_1_method_33_code
def yX7_image : MethodName := ⟨RX7, "image", "(I)I"⟩
abbrev cX7_restore : ByteArray := prog_1_method_34_code
def yX7_restore : MethodName := ⟨RX7, "restore", "(I)I"⟩
abbrev cX7_kind : ByteArray := prog_1_method_35_code
def yX7_kind : MethodName := ⟨RX7, "kind", "(I)I"⟩
abbrev cX7_as : ByteArray := prog_1_method_36_code
def yX7_as : MethodName := ⟨RX7, "as", "(II)I"⟩
abbrev cX7_ask : ByteArray := prog_1_method_37_code
def yX7_ask : MethodName := ⟨RX7, "ask", "(II)I"⟩
abbrev cX7_trace : ByteArray := prog_1_method_38_code
def yX7_trace : MethodName := ⟨RX7, "trace", "(I)I"⟩
abbrev cX7_count : ByteArray := prog_1_method_39_code
def yX7_count : MethodName := ⟨RX7, "count", "(I)I"⟩
abbrev cX7_status : ByteArray := prog_1_method_40_code
def yX7_status : MethodName := ⟨RX7, "status", "()I"⟩
abbrev cX7_found : ByteArray := prog_1_method_41_code
def yX7_found : MethodName := ⟨RX7, "found", "(I)I"⟩
abbrev cX7_unfound : ByteArray := prog_1_method_42_code
def yX7_unfound : MethodName := ⟨RX7, "unfound", "(I)I"⟩
abbrev cX7_noGate : ByteArray := prog_1_method_43_code
def yX7_noGate : MethodName := ⟨RX7, "noGate", "()Z"⟩
abbrev cX7_isRow : ByteArray := prog_1_method_44_code
def yX7_isRow : MethodName := ⟨RX7, "isRow", "(I)Z"⟩
abbrev cX7_isWord : ByteArray := prog_1_method_45_code
def yX7_isWord : MethodName := ⟨RX7, "isWord", "(I)Z"⟩
abbrev cX7_areWords : ByteArray := prog_1_method_46_code
def yX7_areWords : MethodName := ⟨RX7, "areWords", "(I)Z"⟩
abbrev cX7_isGuard : ByteArray := prog_1_method_47_code
def yX7_isGuard : MethodName := ⟨RX7, "isGuard", "(I)Z"⟩
abbrev cX7_isHour : ByteArray := prog_1_method_48_code
def yX7_isHour : MethodName := ⟨RX7, "isHour", "(I)Z"⟩
abbrev cX7_isAhead : ByteArray := prog_1_method_49_code
def yX7_isAhead : MethodName := ⟨RX7, "isAhead", "(I)Z"⟩
abbrev cX7_rowsThere : ByteArray := prog_1_method_50_code
def yX7_rowsThere : MethodName := ⟨RX7, "rowsThere", "()I"⟩
abbrev cX7_hourOfLast : ByteArray := prog_1_method_51_code
def yX7_hourOfLast : MethodName := ⟨RX7, "hourOfLast", "(LWrongWord$Row;II)I"⟩
abbrev cX7_rulesThatTell : ByteArray := prog_1_method_52_code
def yX7_rulesThatTell : MethodName := ⟨RX7, "rulesThatTell", "(LWrongWord$Row;III)I"⟩
abbrev cX7_kindsThatFit : ByteArray := prog_1_method_53_code
def yX7_kindsThatFit : MethodName := ⟨RX7, "kindsThatFit", "(LWrongWord$Row;I)I"⟩
abbrev cX7_secretsThatFit : ByteArray := prog_1_method_54_code
def yX7_secretsThatFit : MethodName := ⟨RX7, "secretsThatFit", "(ILWrongWord$Row;I)I"⟩
abbrev cX7_fitsTold : ByteArray := prog_1_method_55_code
def yX7_fitsTold : MethodName := ⟨RX7, "fitsTold", "(IILWrongWord$Row;I)Z"⟩
abbrev cX7_bit : ByteArray := prog_1_method_56_code
def yX7_bit : MethodName := ⟨RX7, "bit", "(Z)I"⟩
abbrev cX7_rest : ByteArray := prog_1_method_57_code
def yX7_rest : MethodName := ⟨RX7, "rest", "(II)I"⟩
abbrev cX7_lowest : ByteArray := prog_1_method_58_code
def yX7_lowest : MethodName := ⟨RX7, "lowest", "(II)I"⟩
abbrev cX7_commonDivisor : ByteArray := prog_1_method_59_code
def yX7_commonDivisor : MethodName := ⟨RX7, "commonDivisor", "(II)I"⟩
def RX8 : String := "WrongWordModel"
def TX8 : u_T := fun k => match k with
  | 0 => ("WrongWordModel", "lane", "[I", true)
  | 1 => ("WrongWordModel", "many", "[I", true)
  | 2 => ("WrongWordModel", "items", "[I", true)
  | 3 => ("WrongWordModel", "spare", "[I", true)
  | 4 => ("WrongWordModel", "status", "I", false)
  | 5 => ("WrongWordModel", "tape", "[I", true)
  | 6 => ("WrongWordModel", "taped", "I", false)
  | 7 => ("WrongWordModel", "faultKind", "I", false)
  | 8 => ("WrongWordModel", "faultPlace", "I", false)
  | 9 => ("WrongWordModel", "at", "I", false)
  | 10 => ("WrongWordModel", "start", "I", false)
  | 11 => ("WrongWordModel", "token", "I", false)
  | 12 => ("WrongWordModel", "value", "I", false)
  | 13 => ("WrongWordModel", "now", "[I", true)
  | 14 => ("WrongWordModel", "draft", "[I", true)
  | 15 => ("WrongWordModel", "tried", "[I", true)
  | 16 => ("WrongWordModel", "past", "[I", true)
  | 17 => ("WrongWordModel", "acts", "I", false)
  | 18 => ("WrongWordModel", "images", "[I", true)
  | 19 => ("WrongWordModel", "kept", "[Z", true)
  | 20 => ("WrongWordModel", "men", "[I", true)
  | 21 => ("WrongWordModel", "trace", "[I", true)
  | _ => ("WrongWordModel", "traced", "I", false)
def tyX8 : Nat → FieldType := fun k => match k with
  | 0 => .array .int
  | 1 => .array .int
  | 2 => .array .int
  | 3 => .array .int
  | 4 => .int
  | 5 => .array .int
  | 6 => .int
  | 7 => .int
  | 8 => .int
  | 9 => .int
  | 10 => .int
  | 11 => .int
  | 12 => .int
  | 13 => .array .int
  | 14 => .array .int
  | 15 => .array .int
  | 16 => .array .int
  | 17 => .int
  | 18 => .array .int
  | 19 => .array .boolean
  | 20 => .array .int
  | 21 => .array .int
  | _ => .int
abbrev wsX80 : List Cond := u_ws RX8 TX8 23
theorem nmX8 : ∀ a, a < 23 → ∀ b, b < 23 → a ≠ b → (TX8 a).2.1 ≠ (TX8 b).2.1 := by decide +kernel
theorem tyX8_ok : ∀ k, k < 23 → parseFieldDescriptor (TX8 k).2.2.1 = some (tyX8 k) := by decide +kernel
abbrev cX8_init : ByteArray := prog_10_method_1_code
def yX8_init : MethodName := ⟨RX8, "<init>", "()V"⟩
abbrev cX8_in : ByteArray := prog_10_method_3_code
def yX8_in : MethodName := ⟨RX8, "in", "(III)Z"⟩
abbrev cX8_has : ByteArray := prog_10_method_4_code
def yX8_has : MethodName := ⟨RX8, "has", "(II)Z"⟩
abbrev cX8_ones : ByteArray := prog_10_method_5_code
def yX8_ones : MethodName := ⟨RX8, "ones", "(I)I"⟩
abbrev cX8_found : ByteArray := prog_10_method_6_code
def yX8_found : MethodName := ⟨RX8, "found", "(I)I"⟩
abbrev cX8_well : ByteArray := prog_10_method_7_code
def yX8_well : MethodName := ⟨RX8, "well", "(I)I"⟩
abbrev cX8_copies : ByteArray := prog_10_method_8_code
def yX8_copies : MethodName := ⟨RX8, "copies", "([II[II)V"⟩
abbrev cX8_isRow : ByteArray := prog_10_method_9_code
def yX8_isRow : MethodName := ⟨RX8, "isRow", "(I)Z"⟩
abbrev cX8_isMissing : ByteArray := prog_10_method_10_code
def yX8_isMissing : MethodName := ⟨RX8, "isMissing", "(I)Z"⟩
abbrev cX8_cut : ByteArray := prog_10_method_11_code
def yX8_cut : MethodName := ⟨RX8, "cut", "(II)I"⟩
abbrev cX8_row : ByteArray := prog_10_method_12_code
def yX8_row : MethodName := ⟨RX8, "row", "(III)I"⟩
abbrev cX8_set : ByteArray := prog_10_method_13_code
def yX8_set : MethodName := ⟨RX8, "set", "(III)I"⟩
abbrev cX8_isPart : ByteArray := prog_10_method_14_code
def yX8_isPart : MethodName := ⟨RX8, "isPart", "(III)Z"⟩
abbrev cX8_copy : ByteArray := prog_10_method_15_code
def yX8_copy : MethodName := ⟨RX8, "copy", "(IIIII)I"⟩
abbrev cX8_drop : ByteArray := prog_10_method_16_code
def yX8_drop : MethodName := ⟨RX8, "drop", "(I)I"⟩
abbrev cX8_feed : ByteArray := prog_10_method_17_code
def yX8_feed : MethodName := ⟨RX8, "feed", "(I)I"⟩
abbrev cX8_byteAt : ByteArray := prog_10_method_18_code
def yX8_byteAt : MethodName := ⟨RX8, "byteAt", "(I)I"⟩
abbrev cX8_advances : ByteArray := prog_10_method_19_code
def yX8_advances : MethodName := ⟨RX8, "advances", "()V"⟩
abbrev cX8_isWell : ByteArray := prog_10_method_20_code
def yX8_isWell : MethodName := ⟨RX8, "isWell", "()Z"⟩
abbrev cX8_takes : ByteArray := prog_10_method_21_code
def yX8_takes : MethodName := ⟨RX8, "takes", "(ZI)I"⟩
abbrev cX8_figure : ByteArray := prog_10_method_22_code
def yX8_figure : MethodName := ⟨RX8, "figure", "(II)I"⟩
abbrev cX8_kindOf : ByteArray := prog_10_method_23_code
def yX8_kindOf : MethodName := ⟨RX8, "kindOf", "(I)I"⟩
abbrev cX8_follows : ByteArray := prog_10_method_24_code
def yX8_follows : MethodName := ⟨RX8, "follows", "(II)I"⟩
abbrev cX8_isTold : ByteArray := prog_10_method_25_code
def yX8_isTold : MethodName := ⟨RX8, "isTold", "(III)Z"⟩
abbrev cX8_letterOf : ByteArray := prog_10_method_26_code
def yX8_letterOf : MethodName := ⟨RX8, "letterOf", "()I"⟩
abbrev cX8_readsWord : ByteArray := prog_10_method_27_code
def yX8_readsWord : MethodName := ⟨RX8, "readsWord", "()V"⟩
abbrev cX8_readsGuard : ByteArray := prog_10_method_28_code
def yX8_readsGuard : MethodName := ⟨RX8, "readsGuard", "()V"⟩
abbrev cX8_must : ByteArray := prog_10_method_29_code
def yX8_must : MethodName := ⟨RX8, "must", "(Z)V"⟩
abbrev cX8_gate : ByteArray := prog_10_method_30_code
def yX8_gate : MethodName := ⟨RX8, "gate", "()I"⟩
abbrev cX8_fault : ByteArray := prog_10_method_31_code
def yX8_fault : MethodName := ⟨RX8, "fault", "()I"⟩
abbrev cX8_isGate : ByteArray := prog_10_method_32_code
def yX8_isGate : MethodName := ⟨RX8, "isGate", "()Z"⟩
abbrev cX8_isWord : ByteArray := prog_10_method_33_code
def yX8_isWord : MethodName := ⟨RX8, "isWord", "(I)Z"⟩
abbrev cX8_isGuard : ByteArray := prog_10_method_34_code
def yX8_isGuard : MethodName := ⟨RX8, "isGuard", "(I)Z"⟩
abbrev cX8_isHour : ByteArray := prog_10_method_35_code
def yX8_isHour : MethodName := ⟨RX8, "isHour", "(I)Z"⟩
abbrev cX8_isFar : ByteArray := prog_10_method_36_code
def yX8_isFar : MethodName := ⟨RX8, "isFar", "(I)Z"⟩
abbrev cX8_areWords : ByteArray := prog_10_method_37_code
def yX8_areWords : MethodName := ⟨RX8, "areWords", "(I)Z"⟩
abbrev cX8_secretOf : ByteArray := prog_10_method_38_code
def yX8_secretOf : MethodName := ⟨RX8, "secretOf", "([II)I"⟩
abbrev cX8_distance : ByteArray := prog_10_method_39_code
def yX8_distance : MethodName := ⟨RX8, "distance", "(II)I"⟩
abbrev cX8_lips : ByteArray := prog_10_method_40_code
def yX8_lips : MethodName := ⟨RX8, "lips", "(II)I"⟩
abbrev cX8_takesBy : ByteArray := prog_10_method_41_code
def yX8_takesBy : MethodName := ⟨RX8, "takesBy", "(IIII)Z"⟩
abbrev cX8_guardOn : ByteArray := prog_10_method_42_code
def yX8_guardOn : MethodName := ⟨RX8, "guardOn", "(II)I"⟩
abbrev cX8_kindIn : ByteArray := prog_10_method_43_code
def yX8_kindIn : MethodName := ⟨RX8, "kindIn", "(I)I"⟩
abbrev cX8_isTaken : ByteArray := prog_10_method_44_code
def yX8_isTaken : MethodName := ⟨RX8, "isTaken", "(IIIII)Z"⟩
abbrev cX8_isTakenNow : ByteArray := prog_10_method_45_code
def yX8_isTakenNow : MethodName := ⟨RX8, "isTakenNow", "(III)Z"⟩
abbrev cX8_notes : ByteArray := prog_10_method_46_code
def yX8_notes : MethodName := ⟨RX8, "notes", "()V"⟩
abbrev cX8_forgets : ByteArray := prog_10_method_47_code
def yX8_forgets : MethodName := ⟨RX8, "forgets", "()V"⟩
abbrev cX8_nights : ByteArray := prog_10_method_48_code
def yX8_nights : MethodName := ⟨RX8, "nights", "(I)I"⟩
abbrev cX8_say : ByteArray := prog_10_method_49_code
def yX8_say : MethodName := ⟨RX8, "say", "(II)I"⟩
abbrev cX8_start : ByteArray := prog_10_method_50_code
def yX8_start : MethodName := ⟨RX8, "start", "(I)I"⟩
abbrev cX8_dismiss : ByteArray := prog_10_method_51_code
def yX8_dismiss : MethodName := ⟨RX8, "dismiss", "(II)I"⟩
abbrev cX8_undo : ByteArray := prog_10_method_52_code
def yX8_undo : MethodName := ⟨RX8, "undo", "()I"⟩
abbrev cX8_letter : ByteArray := prog_10_method_53_code
def yX8_letter : MethodName := ⟨RX8, "letter", "(II)I"⟩
abbrev cX8_like : ByteArray := prog_10_method_54_code
def yX8_like : MethodName := ⟨RX8, "like", "(III)I"⟩
abbrev cX8_hoursOf : ByteArray := prog_10_method_55_code
def yX8_hoursOf : MethodName := ⟨RX8, "hoursOf", "(I)I"⟩
abbrev cX8_guard : ByteArray := prog_10_method_56_code
def yX8_guard : MethodName := ⟨RX8, "guard", "(II)I"⟩
abbrev cX8_tried : ByteArray := prog_10_method_57_code
def yX8_tried : MethodName := ⟨RX8, "tried", "(II)I"⟩
abbrev cX8_secret : ByteArray := prog_10_method_58_code
def yX8_secret : MethodName := ⟨RX8, "secret", "(I)I"⟩
abbrev cX8_taken : ByteArray := prog_10_method_59_code
def yX8_taken : MethodName := ⟨RX8, "taken", "(III)I"⟩
abbrev cX8_safe : ByteArray := prog_10_method_60_code
def yX8_safe : MethodName := ⟨RX8, "safe", "(II)I"⟩
abbrev cX8_areIn : ByteArray := prog_10_method_61_code
def yX8_areIn : MethodName := ⟨RX8, "areIn", "(IIII)Z"⟩
abbrev cX8_open : ByteArray := prog_10_method_62_code
def yX8_open : MethodName := ⟨RX8, "open", "(II)I"⟩
abbrev cX8_next : ByteArray := prog_10_method_63_code
def yX8_next : MethodName := ⟨RX8, "next", "(I)I"⟩
abbrev cX8_agreeing : ByteArray := prog_10_method_64_code
def yX8_agreeing : MethodName := ⟨RX8, "agreeing", "()I"⟩
abbrev cX8_agree : ByteArray := prog_10_method_65_code
def yX8_agree : MethodName := ⟨RX8, "agree", "()I"⟩
abbrev cX8_takenOf : ByteArray := prog_10_method_66_code
def yX8_takenOf : MethodName := ⟨RX8, "takenOf", "(III)I"⟩
abbrev cX8_man : ByteArray := prog_10_method_67_code
def yX8_man : MethodName := ⟨RX8, "man", "(I)I"⟩
abbrev cX8_menFor : ByteArray := prog_10_method_68_code
def yX8_menFor : MethodName := ⟨RX8, "menFor", "(I)I"⟩
abbrev cX8_fewest : ByteArray := prog_10_method_69_code
def yX8_fewest : MethodName := ⟨RX8, "fewest", "()I"⟩
abbrev cX8_march : ByteArray := prog_10_method_70_code
def yX8_march : MethodName := ⟨RX8, "march", "(IIII)I"⟩
abbrev cX8_cheap : ByteArray := prog_10_method_71_code
def yX8_cheap : MethodName := ⟨RX8, "cheap", "(III)I"⟩
abbrev cX8_near : ByteArray := prog_10_method_72_code
def yX8_near : MethodName := ⟨RX8, "near", "(II)I"⟩
abbrev cX8_rules : ByteArray := prog_10_method_73_code
def yX8_rules : MethodName := ⟨RX8, "rules", "(IIII)I"⟩
abbrev cX8_takesSo : ByteArray := prog_10_method_74_code
def yX8_takesSo : MethodName := ⟨RX8, "takesSo", "(III)Z"⟩
abbrev cX8_fits : ByteArray := prog_10_method_75_code
def yX8_fits : MethodName := ⟨RX8, "fits", "(IIII)I"⟩
abbrev cX8_sure : ByteArray := prog_10_method_76_code
def yX8_sure : MethodName := ⟨RX8, "sure", "(IIII)I"⟩
abbrev cX8_drawn : ByteArray := prog_10_method_77_code
def yX8_drawn : MethodName := ⟨RX8, "drawn", "(III)I"⟩
abbrev cX8_image : ByteArray := prog_10_method_78_code
def yX8_image : MethodName := ⟨RX8, "image", "(I)I"⟩
abbrev cX8_restore : ByteArray := prog_10_method_79_code
def yX8_restore : MethodName := ⟨RX8, "restore", "(I)I"⟩
abbrev cX8_kind : ByteArray := prog_10_method_80_code
def yX8_kind : MethodName := ⟨RX8, "kind", "(I)I"⟩
abbrev cX8_as : ByteArray := prog_10_method_81_code
def yX8_as : MethodName := ⟨RX8, "as", "(II)I"⟩
abbrev cX8_begins : ByteArray := prog_10_method_82_code
def yX8_begins : MethodName := ⟨RX8, "begins", "(I)V"⟩
abbrev cX8_keenMark : ByteArray := prog_10_method_83_code
def yX8_keenMark : MethodName := ⟨RX8, "keenMark", "(I)I"⟩
abbrev cX8_deafSize : ByteArray := prog_10_method_84_code
def yX8_deafSize : MethodName := ⟨RX8, "deafSize", "(I)I"⟩
abbrev cX8_keenSize : ByteArray := prog_10_method_85_code
def yX8_keenSize : MethodName := ⟨RX8, "keenSize", "(I)I"⟩
abbrev cX8_deafMark : ByteArray := prog_10_method_86_code
def yX8_deafMark : MethodName := ⟨RX8, "deafMark", "(I)I"⟩
abbrev cX8_ask : ByteArray := prog_10_method_87_code
def yX8_ask : MethodName := ⟨RX8, "ask", "(II)I"⟩
abbrev cX8_trace : ByteArray := prog_10_method_88_code
def yX8_trace : MethodName := ⟨RX8, "trace", "(I)I"⟩
abbrev cX8_count : ByteArray := prog_10_method_89_code
def yX8_count : MethodName := ⟨RX8, "count", "(I)I"⟩
abbrev cX8_status : ByteArray := prog_10_method_90_code
def yX8_status : MethodName := ⟨RX8, "status", "()I"⟩
def RJ6 : String := "java/lang/Integer"
def TJ6 : u_T := fun k => match k with
  | _ => ("", "", "", false)
def tyJ6 : Nat → FieldType := fun k => match k with
  | _ => .int
abbrev wsJ60 : List Cond := u_ws RJ6 TJ6 0
theorem nmJ6 : ∀ a, a < 0 → ∀ b, b < 0 → a ≠ b → (TJ6 a).2.1 ≠ (TJ6 b).2.1 := by decide +kernel
theorem tyJ6_ok : ∀ k, k < 0 → parseFieldDescriptor (TJ6 k).2.2.1 = some (tyJ6 k) := by decide +kernel
abbrev cJ6_bitCount_0f7a4 : ByteArray := prog_11_method_49_code
def yJ6_bitCount_0f7a4 : MethodName := ⟨RJ6, "bitCount", "(I)I"⟩
def RJ9 : String := "java/lang/Math"
def TJ9 : u_T := fun k => match k with
  | _ => ("", "", "", false)
def tyJ9 : Nat → FieldType := fun k => match k with
  | _ => .int
abbrev wsJ90 : List Cond := u_ws RJ9 TJ9 0
theorem nmJ9 : ∀ a, a < 0 → ∀ b, b < 0 → a ≠ b → (TJ9 a).2.1 ≠ (TJ9 b).2.1 := by decide +kernel
theorem tyJ9_ok : ∀ k, k < 0 → parseFieldDescriptor (TJ9 k).2.2.1 = some (tyJ9 k) := by decide +kernel
abbrev cJ9_max_7cf53 : ByteArray := prog_12_method_65_code
def yJ9_max_7cf53 : MethodName := ⟨RJ9, "max", "(II)I"⟩
abbrev cJ9_min_7cf53 : ByteArray := prog_12_method_69_code
def yJ9_min_7cf53 : MethodName := ⟨RJ9, "min", "(II)I"⟩
def RJ10 : String := "java/lang/System"
def TJ10 : u_T := fun k => match k with
  | _ => ("", "", "", false)
def tyJ10 : Nat → FieldType := fun k => match k with
  | _ => .int
abbrev wsJ100 : List Cond := u_ws RJ10 TJ10 0
theorem nmJ10 : ∀ a, a < 0 → ∀ b, b < 0 → a ≠ b → (TJ10 a).2.1 ≠ (TJ10 b).2.1 := by decide +kernel
theorem tyJ10_ok : ∀ k, k < 0 → parseFieldDescriptor (TJ10 k).2.2.1 = some (tyJ10 k) := by decide +kernel
def RL : String := "WrongWordLaw"
abbrev cL_law : ByteArray := code
def yL_law : MethodName := ⟨RL, "law", "([I)Z"⟩
set_option maxRecDepth 100000 in
theorem mem_r {big : List Cond} (ws : List Cond) (ps : List Nat) (hp : ws = ps.filterMap (fun i => big[i]?)) : ∀ w ∈ ws, w ∈ big := fun w hw => by
  rw [hp] at hw
  obtain ⟨i, -, hi⟩ := List.mem_filterMap.mp hw
  first | exact List.mem_of_getElem? hi | exact List.getElem?_mem hi
theorem gd_o {ws : List Cond} (h : ws.all goodWord = true) : ∀ w ∈ ws, goodWord w = true := fun w hw => List.all_eq_true.mp h w hw
theorem ch_0 : ∀ w ∈ k2_sels lw_privs, w ∈ lw_tbl := fun _ h => List.mem_append_left _ h
theorem ch_1 : ∀ w ∈ tables_1_1, w ∈ lw_tbl := fun _ h => List.mem_append_right _ (List.mem_append_left _ h)
theorem ch_2 : ∀ w ∈ tables_1_2, w ∈ lw_tbl := fun _ h => List.mem_append_right _ (List.mem_append_right _ (List.mem_append_left _ h))
theorem ch_3 : ∀ w ∈ tables_1_3, w ∈ lw_tbl := fun _ h => List.mem_append_right _ (List.mem_append_right _ (List.mem_append_right _ (List.mem_append_left _ h)))
theorem ch_4 : ∀ w ∈ tables_1_4, w ∈ lw_tbl := fun _ h => List.mem_append_right _ (List.mem_append_right _ (List.mem_append_right _ (List.mem_append_right _ (List.mem_append_left _ h))))
theorem ch_5 : ∀ w ∈ tables_1_5, w ∈ lw_tbl := fun _ h => List.mem_append_right _ (List.mem_append_right _ (List.mem_append_right _ (List.mem_append_right _ (List.mem_append_right _ (h)))))
set_option maxRecDepth 100000 in
theorem itX00 : ∀ w ∈ wsX00, w ∈ lw_tbl := by decide +kernel
set_option maxRecDepth 100000 in
theorem gdX00 : ∀ w ∈ wsX00, goodWord w = true := by decide +kernel
set_option maxRecDepth 100000 in
theorem itX10 : ∀ w ∈ wsX10, w ∈ lw_tbl := by decide +kernel
set_option maxRecDepth 100000 in
theorem gdX10 : ∀ w ∈ wsX10, goodWord w = true := by decide +kernel
set_option maxRecDepth 100000 in
theorem itX20 : ∀ w ∈ wsX20, w ∈ lw_tbl := by decide +kernel
set_option maxRecDepth 100000 in
theorem gdX20 : ∀ w ∈ wsX20, goodWord w = true := by decide +kernel
set_option maxRecDepth 100000 in
theorem itX30 : ∀ w ∈ wsX30, w ∈ lw_tbl := by decide +kernel
set_option maxRecDepth 100000 in
theorem gdX30 : ∀ w ∈ wsX30, goodWord w = true := by decide +kernel
set_option maxRecDepth 100000 in
theorem itX40 : ∀ w ∈ wsX40, w ∈ lw_tbl := by decide +kernel
set_option maxRecDepth 100000 in
theorem gdX40 : ∀ w ∈ wsX40, goodWord w = true := by decide +kernel
set_option maxRecDepth 100000 in
theorem itX50 : ∀ w ∈ wsX50, w ∈ lw_tbl := by decide +kernel
set_option maxRecDepth 100000 in
theorem gdX50 : ∀ w ∈ wsX50, goodWord w = true := by decide +kernel
set_option maxRecDepth 100000 in
theorem itX60 : ∀ w ∈ wsX60, w ∈ lw_tbl := by decide +kernel
set_option maxRecDepth 100000 in
theorem gdX60 : ∀ w ∈ wsX60, goodWord w = true := by decide +kernel
set_option maxRecDepth 100000 in
theorem itX70 : ∀ w ∈ wsX70, w ∈ lw_tbl := by decide +kernel
set_option maxRecDepth 100000 in
theorem gdX70 : ∀ w ∈ wsX70, goodWord w = true := by decide +kernel
set_option maxRecDepth 100000 in
theorem itX80 : ∀ w ∈ wsX80, w ∈ lw_tbl := by decide +kernel
set_option maxRecDepth 100000 in
theorem gdX80 : ∀ w ∈ wsX80, goodWord w = true := by decide +kernel
def wsX4_init_o : List Cond := (([Cond.methodLink RX4 3 objectInit, Cond.instanceMethod objectInit, Cond.code objectInit ⟨#[0xb1]⟩ 1 none, Cond.arrayClass .int, Cond.fieldLink RX4 9 "WrongWord$Moment" "took" "[I", Cond.fieldLink RX4 15 "WrongWord$Moment" "triedWord" "[I", Cond.fieldLink RX4 18 "WrongWord$Moment" "triedGuard" "[I", Cond.fieldLink RX4 21 "WrongWord$Moment" "triedTaken" "[I"] : List Cond) ++ ([] : List Cond))
def wsX4_init : List Cond := .code yX4_init cX4_init 1 none :: (wsX4_init_o ++ (wsX40 ++ ([] : List Cond)))
set_option maxRecDepth 100000 in
theorem itX4_init_o : ∀ w ∈ wsX4_init_o, w ∈ lw_tbl := List.forall_mem_append.mpr ⟨fun w h => ch_1 w (mem_r (big := tables_1_1) _ [40, 19, 20, 83, 41, 43, 46, 49] (by decide +kernel) w h), fun _ h => absurd h List.not_mem_nil⟩
set_option maxRecDepth 100000 in
theorem itX4_init : ∀ w ∈ wsX4_init, w ∈ lw_tbl := List.forall_mem_cons.mpr ⟨ch_1 _ (List.mem_of_getElem? (l := tables_1_1) (i := 39) (by decide +kernel)), List.forall_mem_append.mpr ⟨itX4_init_o, List.forall_mem_append.mpr ⟨itX40, fun _ h => absurd h List.not_mem_nil⟩⟩⟩
set_option maxRecDepth 100000 in
theorem gdX4_init_o : ∀ w ∈ wsX4_init_o, goodWord w = true := gd_o (by decide +kernel)
set_option maxRecDepth 100000 in
theorem gdX4_init : ∀ w ∈ wsX4_init, goodWord w = true := List.forall_mem_cons.mpr ⟨by decide +kernel, List.forall_mem_append.mpr ⟨gdX4_init_o, List.forall_mem_append.mpr ⟨gdX40, fun _ h => absurd h List.not_mem_nil⟩⟩⟩
def wsX0_init_o : List Cond := (([Cond.methodLink RX0 3 objectInit, Cond.classLink RX0 9 RX4, Cond.fieldLink RX0 11 "WrongWord$Acts" "ahead" "[LWrongWord$Moment;", Cond.instantiable RX4 8, Cond.initialized RX4, Cond.instanceMethod yX4_init] : List Cond) ++ ([] : List Cond))
def wsX0_init : List Cond := .code yX0_init cX0_init 2 none :: (wsX0_init_o ++ (wsX00 ++ (wsX40 ++ (wsX4_init ++ ([] : List Cond)))))
set_option maxRecDepth 100000 in
theorem itX0_init_o : ∀ w ∈ wsX0_init_o, w ∈ lw_tbl := List.forall_mem_append.mpr ⟨fun w h => ch_1 w (mem_r (big := tables_1_1) _ [162, 163, 166, 36, 4, 38] (by decide +kernel) w h), fun _ h => absurd h List.not_mem_nil⟩
set_option maxRecDepth 100000 in
theorem itX0_init : ∀ w ∈ wsX0_init, w ∈ lw_tbl := List.forall_mem_cons.mpr ⟨ch_1 _ (List.mem_of_getElem? (l := tables_1_1) (i := 161) (by decide +kernel)), List.forall_mem_append.mpr ⟨itX0_init_o, List.forall_mem_append.mpr ⟨itX00, List.forall_mem_append.mpr ⟨itX40, List.forall_mem_append.mpr ⟨itX4_init, fun _ h => absurd h List.not_mem_nil⟩⟩⟩⟩⟩
set_option maxRecDepth 100000 in
theorem gdX0_init_o : ∀ w ∈ wsX0_init_o, goodWord w = true := gd_o (by decide +kernel)
set_option maxRecDepth 100000 in
theorem gdX0_init : ∀ w ∈ wsX0_init, goodWord w = true := List.forall_mem_cons.mpr ⟨by decide +kernel, List.forall_mem_append.mpr ⟨gdX0_init_o, List.forall_mem_append.mpr ⟨gdX00, List.forall_mem_append.mpr ⟨gdX40, List.forall_mem_append.mpr ⟨gdX4_init, fun _ h => absurd h List.not_mem_nil⟩⟩⟩⟩⟩
def wsX0_forget_o : List Cond := (([Cond.fieldLink RX0 18 "WrongWord$Acts" "kept" "I"] : List Cond) ++ ([] : List Cond))
def wsX0_forget : List Cond := .code yX0_forget cX0_forget 1 none :: (wsX0_forget_o ++ (wsX00 ++ ([] : List Cond)))
set_option maxRecDepth 100000 in
theorem itX0_forget_o : ∀ w ∈ wsX0_forget_o, w ∈ lw_tbl := List.forall_mem_append.mpr ⟨fun w h => ch_1 w (mem_r (big := tables_1_1) _ [168] (by decide +kernel) w h), fun _ h => absurd h List.not_mem_nil⟩
set_option maxRecDepth 100000 in
theorem itX0_forget : ∀ w ∈ wsX0_forget, w ∈ lw_tbl := List.forall_mem_cons.mpr ⟨ch_2 _ (List.mem_of_getElem? (l := tables_1_2) (i := 152) (by decide +kernel)), List.forall_mem_append.mpr ⟨itX0_forget_o, List.forall_mem_append.mpr ⟨itX00, fun _ h => absurd h List.not_mem_nil⟩⟩⟩
set_option maxRecDepth 100000 in
theorem gdX0_forget_o : ∀ w ∈ wsX0_forget_o, goodWord w = true := gd_o (by decide +kernel)
set_option maxRecDepth 100000 in
theorem gdX0_forget : ∀ w ∈ wsX0_forget, goodWord w = true := List.forall_mem_cons.mpr ⟨by decide +kernel, List.forall_mem_append.mpr ⟨gdX0_forget_o, List.forall_mem_append.mpr ⟨gdX00, fun _ h => absurd h List.not_mem_nil⟩⟩⟩
def wsX4_become_o : List Cond := (([Cond.fieldLink RX4 24 "WrongWord$Moment" "night" "I", Cond.fieldLink RX4 34 "WrongWord$Moment" "start" "I", Cond.fieldLink RX4 28 "WrongWord$Moment" "there" "I", Cond.fieldLink RX4 31 "WrongWord$Moment" "tries" "I", Cond.fieldLink RX4 9 "WrongWord$Moment" "took" "[I", Cond.initialized "java/lang/System", Cond.fieldLink RX4 15 "WrongWord$Moment" "triedWord" "[I", Cond.fieldLink RX4 18 "WrongWord$Moment" "triedGuard" "[I", Cond.fieldLink RX4 21 "WrongWord$Moment" "triedTaken" "[I"] : List Cond) ++ (([Cond.methodLink RX4 37 arraycopyName, Cond.native arraycopyName, Cond.static arraycopyName] : List Cond) ++ ([] : List Cond)))
def wsX4_become : List Cond := .code yX4_become cX4_become 2 none :: (wsX4_become_o ++ (wsX40 ++ ([] : List Cond)))
set_option maxRecDepth 100000 in
theorem itX4_become_o : ∀ w ∈ wsX4_become_o, w ∈ lw_tbl := List.forall_mem_append.mpr ⟨fun w h => ch_1 w (mem_r (big := tables_1_1) _ [52, 56, 60, 63, 41, 10, 43, 46, 49] (by decide +kernel) w h), List.forall_mem_append.mpr ⟨fun w h => ch_2 w (mem_r (big := tables_1_2) _ [148, 69, 68] (by decide +kernel) w h), fun _ h => absurd h List.not_mem_nil⟩⟩
set_option maxRecDepth 100000 in
theorem itX4_become : ∀ w ∈ wsX4_become, w ∈ lw_tbl := List.forall_mem_cons.mpr ⟨ch_2 _ (List.mem_of_getElem? (l := tables_1_2) (i := 147) (by decide +kernel)), List.forall_mem_append.mpr ⟨itX4_become_o, List.forall_mem_append.mpr ⟨itX40, fun _ h => absurd h List.not_mem_nil⟩⟩⟩
set_option maxRecDepth 100000 in
theorem gdX4_become_o : ∀ w ∈ wsX4_become_o, goodWord w = true := gd_o (by decide +kernel)
set_option maxRecDepth 100000 in
theorem gdX4_become : ∀ w ∈ wsX4_become, goodWord w = true := List.forall_mem_cons.mpr ⟨by decide +kernel, List.forall_mem_append.mpr ⟨gdX4_become_o, List.forall_mem_append.mpr ⟨gdX40, fun _ h => absurd h List.not_mem_nil⟩⟩⟩
def wsX0_keep_o : List Cond := (([Cond.fieldLink RX0 11 "WrongWord$Acts" "ahead" "[LWrongWord$Moment;", Cond.fieldLink RX0 22 "WrongWord$Acts" "at" "I", Cond.fieldLink RX0 18 "WrongWord$Acts" "kept" "I", Cond.initialized "java/lang/Math", Cond.initialized RX4] : List Cond) ++ (([Cond.methodLink RX0 29 Lib.Math.min.name, Cond.static Lib.Math.min.name, Cond.code Lib.Math.min.name Lib.Math.min.code 2 (some .int), Cond.methodLink RX0 25 yX4_become, Cond.instanceMethod yX4_become, Cond.selects RX4 yX4_become yX4_become] : List Cond) ++ ([] : List Cond)))
def wsX0_keep : List Cond := .code yX0_keep cX0_keep 2 none :: (wsX0_keep_o ++ (wsX00 ++ (wsX40 ++ (wsX4_become ++ ([] : List Cond)))))
set_option maxRecDepth 100000 in
theorem itX0_keep_o : ∀ w ∈ wsX0_keep_o, w ∈ lw_tbl := List.forall_mem_append.mpr ⟨fun w h => ch_1 w (mem_r (big := tables_1_1) _ [166, 167, 168, 11, 4] (by decide +kernel) w h), List.forall_mem_append.mpr ⟨fun w h => ch_2 w (mem_r (big := tables_1_2) _ [171, 172, 173, 170, 145, 146] (by decide +kernel) w h), fun _ h => absurd h List.not_mem_nil⟩⟩
set_option maxRecDepth 100000 in
theorem itX0_keep : ∀ w ∈ wsX0_keep, w ∈ lw_tbl := List.forall_mem_cons.mpr ⟨ch_2 _ (List.mem_of_getElem? (l := tables_1_2) (i := 169) (by decide +kernel)), List.forall_mem_append.mpr ⟨itX0_keep_o, List.forall_mem_append.mpr ⟨itX00, List.forall_mem_append.mpr ⟨itX40, List.forall_mem_append.mpr ⟨itX4_become, fun _ h => absurd h List.not_mem_nil⟩⟩⟩⟩⟩
set_option maxRecDepth 100000 in
theorem gdX0_keep_o : ∀ w ∈ wsX0_keep_o, goodWord w = true := gd_o (by decide +kernel)
set_option maxRecDepth 100000 in
theorem gdX0_keep : ∀ w ∈ wsX0_keep, goodWord w = true := List.forall_mem_cons.mpr ⟨by decide +kernel, List.forall_mem_append.mpr ⟨gdX0_keep_o, List.forall_mem_append.mpr ⟨gdX00, List.forall_mem_append.mpr ⟨gdX40, List.forall_mem_append.mpr ⟨gdX4_become, fun _ h => absurd h List.not_mem_nil⟩⟩⟩⟩⟩
def wsX0_takeBack_o : List Cond := (([Cond.fieldLink RX0 18 "WrongWord$Acts" "kept" "I", Cond.fieldLink RX0 22 "WrongWord$Acts" "at" "I", Cond.fieldLink RX0 11 "WrongWord$Acts" "ahead" "[LWrongWord$Moment;", Cond.initialized RX4] : List Cond) ++ (([Cond.methodLink RX0 25 yX4_become, Cond.instanceMethod yX4_become, Cond.selects RX4 yX4_become yX4_become] : List Cond) ++ ([] : List Cond)))
def wsX0_takeBack : List Cond := .code yX0_takeBack cX0_takeBack 2 (some .boolean) :: (wsX0_takeBack_o ++ (wsX00 ++ (wsX40 ++ (wsX4_become ++ ([] : List Cond)))))
set_option maxRecDepth 100000 in
theorem itX0_takeBack_o : ∀ w ∈ wsX0_takeBack_o, w ∈ lw_tbl := List.forall_mem_append.mpr ⟨fun w h => ch_1 w (mem_r (big := tables_1_1) _ [168, 167, 166, 4] (by decide +kernel) w h), List.forall_mem_append.mpr ⟨fun w h => ch_2 w (mem_r (big := tables_1_2) _ [170, 145, 146] (by decide +kernel) w h), fun _ h => absurd h List.not_mem_nil⟩⟩
set_option maxRecDepth 100000 in
theorem itX0_takeBack : ∀ w ∈ wsX0_takeBack, w ∈ lw_tbl := List.forall_mem_cons.mpr ⟨ch_3 _ (List.mem_of_getElem? (l := tables_1_3) (i := 17) (by decide +kernel)), List.forall_mem_append.mpr ⟨itX0_takeBack_o, List.forall_mem_append.mpr ⟨itX00, List.forall_mem_append.mpr ⟨itX40, List.forall_mem_append.mpr ⟨itX4_become, fun _ h => absurd h List.not_mem_nil⟩⟩⟩⟩⟩
set_option maxRecDepth 100000 in
theorem gdX0_takeBack_o : ∀ w ∈ wsX0_takeBack_o, goodWord w = true := gd_o (by decide +kernel)
set_option maxRecDepth 100000 in
theorem gdX0_takeBack : ∀ w ∈ wsX0_takeBack, goodWord w = true := List.forall_mem_cons.mpr ⟨by decide +kernel, List.forall_mem_append.mpr ⟨gdX0_takeBack_o, List.forall_mem_append.mpr ⟨gdX00, List.forall_mem_append.mpr ⟨gdX40, List.forall_mem_append.mpr ⟨gdX4_become, fun _ h => absurd h List.not_mem_nil⟩⟩⟩⟩⟩
def wsX1_init_o : List Cond := (([Cond.methodLink RX1 3 objectInit, Cond.instanceMethod objectInit, Cond.code objectInit ⟨#[0xb1]⟩ 1 none, Cond.arrayClass .int, Cond.fieldLink RX1 11 "WrongWord$Asks" "bodies" "[I"] : List Cond) ++ ([] : List Cond))
def wsX1_init : List Cond := .code yX1_init cX1_init 1 none :: (wsX1_init_o ++ (wsX10 ++ ([] : List Cond)))
set_option maxRecDepth 100000 in
theorem itX1_init_o : ∀ w ∈ wsX1_init_o, w ∈ lw_tbl := List.forall_mem_append.mpr ⟨fun w h => ch_1 w (mem_r (big := tables_1_1) _ [196, 19, 20, 83, 197] (by decide +kernel) w h), fun _ h => absurd h List.not_mem_nil⟩
set_option maxRecDepth 100000 in
theorem itX1_init : ∀ w ∈ wsX1_init, w ∈ lw_tbl := List.forall_mem_cons.mpr ⟨ch_1 _ (List.mem_of_getElem? (l := tables_1_1) (i := 195) (by decide +kernel)), List.forall_mem_append.mpr ⟨itX1_init_o, List.forall_mem_append.mpr ⟨itX10, fun _ h => absurd h List.not_mem_nil⟩⟩⟩
set_option maxRecDepth 100000 in
theorem gdX1_init_o : ∀ w ∈ wsX1_init_o, goodWord w = true := gd_o (by decide +kernel)
set_option maxRecDepth 100000 in
theorem gdX1_init : ∀ w ∈ wsX1_init, goodWord w = true := List.forall_mem_cons.mpr ⟨by decide +kernel, List.forall_mem_append.mpr ⟨gdX1_init_o, List.forall_mem_append.mpr ⟨gdX10, fun _ h => absurd h List.not_mem_nil⟩⟩⟩
def wsX1_isA_o : List Cond := (([Cond.fieldLink RX1 15 "WrongWord$Asks" "NEAREST_ABOVE" "[I"] : List Cond) ++ ([] : List Cond))
def wsX1_isA : List Cond := .code yX1_isA cX1_isA 4 (some .boolean) :: (wsX1_isA_o ++ ([] : List Cond))
set_option maxRecDepth 100000 in
theorem itX1_isA_o : ∀ w ∈ wsX1_isA_o, w ∈ lw_tbl := List.forall_mem_append.mpr ⟨fun w h => ch_3 w (mem_r (big := tables_1_3) _ [231] (by decide +kernel) w h), fun _ h => absurd h List.not_mem_nil⟩
set_option maxRecDepth 100000 in
theorem itX1_isA : ∀ w ∈ wsX1_isA, w ∈ lw_tbl := List.forall_mem_cons.mpr ⟨ch_3 _ (List.mem_of_getElem? (l := tables_1_3) (i := 230) (by decide +kernel)), List.forall_mem_append.mpr ⟨itX1_isA_o, fun _ h => absurd h List.not_mem_nil⟩⟩
set_option maxRecDepth 100000 in
theorem gdX1_isA_o : ∀ w ∈ wsX1_isA_o, goodWord w = true := gd_o (by decide +kernel)
set_option maxRecDepth 100000 in
theorem gdX1_isA : ∀ w ∈ wsX1_isA, goodWord w = true := List.forall_mem_cons.mpr ⟨by decide +kernel, List.forall_mem_append.mpr ⟨gdX1_isA_o, fun _ h => absurd h List.not_mem_nil⟩⟩
def wsX1_turnTo_o : List Cond := (([Cond.fieldLink RX1 18 "WrongWord$Asks" "number" "I", Cond.fieldLink RX1 22 "WrongWord$Asks" "kind" "I", Cond.fieldLink RX1 25 "WrongWord$Asks" "fee" "I", Cond.fieldLink RX1 28 "WrongWord$Asks" "took" "I", Cond.fieldLink RX1 31 "WrongWord$Asks" "begun" "I"] : List Cond) ++ ([] : List Cond))
def wsX1_turnTo : List Cond := .code yX1_turnTo cX1_turnTo 5 none :: (wsX1_turnTo_o ++ (wsX10 ++ ([] : List Cond)))
set_option maxRecDepth 100000 in
theorem itX1_turnTo_o : ∀ w ∈ wsX1_turnTo_o, w ∈ lw_tbl := List.forall_mem_append.mpr ⟨fun w h => ch_1 w (mem_r (big := tables_1_1) _ [201, 202, 203, 204, 199] (by decide +kernel) w h), fun _ h => absurd h List.not_mem_nil⟩
set_option maxRecDepth 100000 in
theorem itX1_turnTo : ∀ w ∈ wsX1_turnTo, w ∈ lw_tbl := List.forall_mem_cons.mpr ⟨ch_4 _ (List.mem_of_getElem? (l := tables_1_4) (i := 0) (by decide +kernel)), List.forall_mem_append.mpr ⟨itX1_turnTo_o, List.forall_mem_append.mpr ⟨itX10, fun _ h => absurd h List.not_mem_nil⟩⟩⟩
set_option maxRecDepth 100000 in
theorem gdX1_turnTo_o : ∀ w ∈ wsX1_turnTo_o, goodWord w = true := gd_o (by decide +kernel)
set_option maxRecDepth 100000 in
theorem gdX1_turnTo : ∀ w ∈ wsX1_turnTo, goodWord w = true := List.forall_mem_cons.mpr ⟨by decide +kernel, List.forall_mem_append.mpr ⟨gdX1_turnTo_o, List.forall_mem_append.mpr ⟨gdX10, fun _ h => absurd h List.not_mem_nil⟩⟩⟩
def wsX1_sizeBody_o : List Cond := (([Cond.fieldLink RX1 22 "WrongWord$Asks" "kind" "I"] : List Cond) ++ (([Cond.fieldLink RX1 45 "WrongWord$Asks" "SIZE_BODY" "[I"] : List Cond) ++ ([] : List Cond)))
def wsX1_sizeBody : List Cond := .code yX1_sizeBody cX1_sizeBody 1 (some .int) :: (wsX1_sizeBody_o ++ (wsX10 ++ ([] : List Cond)))
set_option maxRecDepth 100000 in
theorem itX1_sizeBody_o : ∀ w ∈ wsX1_sizeBody_o, w ∈ lw_tbl := List.forall_mem_append.mpr ⟨fun w h => ch_1 w (mem_r (big := tables_1_1) _ [202] (by decide +kernel) w h), List.forall_mem_append.mpr ⟨fun w h => ch_4 w (mem_r (big := tables_1_4) _ [9] (by decide +kernel) w h), fun _ h => absurd h List.not_mem_nil⟩⟩
set_option maxRecDepth 100000 in
theorem itX1_sizeBody : ∀ w ∈ wsX1_sizeBody, w ∈ lw_tbl := List.forall_mem_cons.mpr ⟨ch_4 _ (List.mem_of_getElem? (l := tables_1_4) (i := 8) (by decide +kernel)), List.forall_mem_append.mpr ⟨itX1_sizeBody_o, List.forall_mem_append.mpr ⟨itX10, fun _ h => absurd h List.not_mem_nil⟩⟩⟩
set_option maxRecDepth 100000 in
theorem gdX1_sizeBody_o : ∀ w ∈ wsX1_sizeBody_o, goodWord w = true := gd_o (by decide +kernel)
set_option maxRecDepth 100000 in
theorem gdX1_sizeBody : ∀ w ∈ wsX1_sizeBody, goodWord w = true := List.forall_mem_cons.mpr ⟨by decide +kernel, List.forall_mem_append.mpr ⟨gdX1_sizeBody_o, List.forall_mem_append.mpr ⟨gdX10, fun _ h => absurd h List.not_mem_nil⟩⟩⟩
def wsX1_markBody_o : List Cond := (([Cond.fieldLink RX1 22 "WrongWord$Asks" "kind" "I"] : List Cond) ++ (([Cond.fieldLink RX1 48 "WrongWord$Asks" "MARK_BODY" "[I"] : List Cond) ++ ([] : List Cond)))
def wsX1_markBody : List Cond := .code yX1_markBody cX1_markBody 1 (some .int) :: (wsX1_markBody_o ++ (wsX10 ++ ([] : List Cond)))
set_option maxRecDepth 100000 in
theorem itX1_markBody_o : ∀ w ∈ wsX1_markBody_o, w ∈ lw_tbl := List.forall_mem_append.mpr ⟨fun w h => ch_1 w (mem_r (big := tables_1_1) _ [202] (by decide +kernel) w h), List.forall_mem_append.mpr ⟨fun w h => ch_4 w (mem_r (big := tables_1_4) _ [15] (by decide +kernel) w h), fun _ h => absurd h List.not_mem_nil⟩⟩
set_option maxRecDepth 100000 in
theorem itX1_markBody : ∀ w ∈ wsX1_markBody, w ∈ lw_tbl := List.forall_mem_cons.mpr ⟨ch_4 _ (List.mem_of_getElem? (l := tables_1_4) (i := 14) (by decide +kernel)), List.forall_mem_append.mpr ⟨itX1_markBody_o, List.forall_mem_append.mpr ⟨itX10, fun _ h => absurd h List.not_mem_nil⟩⟩⟩
set_option maxRecDepth 100000 in
theorem gdX1_markBody_o : ∀ w ∈ wsX1_markBody_o, goodWord w = true := gd_o (by decide +kernel)
set_option maxRecDepth 100000 in
theorem gdX1_markBody : ∀ w ∈ wsX1_markBody, goodWord w = true := List.forall_mem_cons.mpr ⟨by decide +kernel, List.forall_mem_append.mpr ⟨gdX1_markBody_o, List.forall_mem_append.mpr ⟨gdX10, fun _ h => absurd h List.not_mem_nil⟩⟩⟩
def wsX1_leave_o : List Cond := (([Cond.fieldLink RX1 31 "WrongWord$Asks" "begun" "I", Cond.fieldLink RX1 11 "WrongWord$Asks" "bodies" "[I"] : List Cond) ++ ([] : List Cond))
def wsX1_leave : List Cond := .code yX1_leave cX1_leave 2 none :: (wsX1_leave_o ++ (wsX10 ++ ([] : List Cond)))
set_option maxRecDepth 100000 in
theorem itX1_leave_o : ∀ w ∈ wsX1_leave_o, w ∈ lw_tbl := List.forall_mem_append.mpr ⟨fun w h => ch_1 w (mem_r (big := tables_1_1) _ [199, 197] (by decide +kernel) w h), fun _ h => absurd h List.not_mem_nil⟩
set_option maxRecDepth 100000 in
theorem itX1_leave : ∀ w ∈ wsX1_leave, w ∈ lw_tbl := List.forall_mem_cons.mpr ⟨ch_4 _ (List.mem_of_getElem? (l := tables_1_4) (i := 23) (by decide +kernel)), List.forall_mem_append.mpr ⟨itX1_leave_o, List.forall_mem_append.mpr ⟨itX10, fun _ h => absurd h List.not_mem_nil⟩⟩⟩
set_option maxRecDepth 100000 in
theorem gdX1_leave_o : ∀ w ∈ wsX1_leave_o, goodWord w = true := gd_o (by decide +kernel)
set_option maxRecDepth 100000 in
theorem gdX1_leave : ∀ w ∈ wsX1_leave, goodWord w = true := List.forall_mem_cons.mpr ⟨by decide +kernel, List.forall_mem_append.mpr ⟨gdX1_leave_o, List.forall_mem_append.mpr ⟨gdX10, fun _ h => absurd h List.not_mem_nil⟩⟩⟩
def wsX1_given_o : List Cond := (([Cond.selects RX1 yX1_leave yX1_leave, Cond.selects RX1 yX1_markBody yX1_markBody, Cond.selects RX1 yX1_sizeBody yX1_sizeBody] : List Cond) ++ (([Cond.fieldLink RX1 25 "WrongWord$Asks" "fee" "I", Cond.fieldLink RX1 18 "WrongWord$Asks" "number" "I", Cond.fieldLink RX1 28 "WrongWord$Asks" "took" "I", Cond.initialized RX1, Cond.fieldLink RX1 31 "WrongWord$Asks" "begun" "I", Cond.fieldLink RX1 11 "WrongWord$Asks" "bodies" "[I", Cond.fieldLink RX1 22 "WrongWord$Asks" "kind" "I"] : List Cond) ++ (([Cond.methodLink RX1 51 yX1_leave, Cond.instanceMethod yX1_leave, Cond.methodLink RX1 41 yX1_given, Cond.static yX1_given, Cond.methodLink RX1 38 yX1_markBody, Cond.instanceMethod yX1_markBody, Cond.fieldLink RX1 48 "WrongWord$Asks" "MARK_BODY" "[I", Cond.methodLink RX1 34 yX1_sizeBody, Cond.instanceMethod yX1_sizeBody, Cond.fieldLink RX1 45 "WrongWord$Asks" "SIZE_BODY" "[I"] : List Cond) ++ ([] : List Cond))))
def wsX1_given : List Cond := .code yX1_given cX1_given 4 (some .int) :: (wsX1_given_o ++ (wsX10 ++ (wsX1_leave ++ (wsX1_markBody ++ (wsX1_sizeBody ++ ([] : List Cond))))))
set_option maxRecDepth 100000 in
theorem itX1_given_o : ∀ w ∈ wsX1_given_o, w ∈ lw_tbl := List.forall_mem_append.mpr ⟨fun w h => ch_0 w (mem_r (big := k2_sels lw_privs) _ [25, 24, 23] (by decide +kernel) w h), List.forall_mem_append.mpr ⟨fun w h => ch_1 w (mem_r (big := tables_1_1) _ [203, 201, 204, 7, 199, 197, 202] (by decide +kernel) w h), List.forall_mem_append.mpr ⟨fun w h => ch_4 w (mem_r (big := tables_1_4) _ [20, 22, 17, 18, 11, 13, 15, 5, 7, 9] (by decide +kernel) w h), fun _ h => absurd h List.not_mem_nil⟩⟩⟩
set_option maxRecDepth 100000 in
theorem itX1_given : ∀ w ∈ wsX1_given, w ∈ lw_tbl := List.forall_mem_cons.mpr ⟨ch_4 _ (List.mem_of_getElem? (l := tables_1_4) (i := 19) (by decide +kernel)), List.forall_mem_append.mpr ⟨itX1_given_o, List.forall_mem_append.mpr ⟨itX10, List.forall_mem_append.mpr ⟨itX1_leave, List.forall_mem_append.mpr ⟨itX1_markBody, List.forall_mem_append.mpr ⟨itX1_sizeBody, fun _ h => absurd h List.not_mem_nil⟩⟩⟩⟩⟩⟩
set_option maxRecDepth 100000 in
theorem gdX1_given_o : ∀ w ∈ wsX1_given_o, goodWord w = true := gd_o (by decide +kernel)
set_option maxRecDepth 100000 in
theorem gdX1_given : ∀ w ∈ wsX1_given, goodWord w = true := List.forall_mem_cons.mpr ⟨by decide +kernel, List.forall_mem_append.mpr ⟨gdX1_given_o, List.forall_mem_append.mpr ⟨gdX10, List.forall_mem_append.mpr ⟨gdX1_leave, List.forall_mem_append.mpr ⟨gdX1_markBody, List.forall_mem_append.mpr ⟨gdX1_sizeBody, fun _ h => absurd h List.not_mem_nil⟩⟩⟩⟩⟩⟩
def wsX1_answer_o : List Cond := (([Cond.selects RX1 yX1_sizeBody yX1_sizeBody, Cond.selects RX1 yX1_markBody yX1_markBody, Cond.selects RX1 yX1_leave yX1_leave] : List Cond) ++ (([Cond.initialized RX1, Cond.fieldLink RX1 22 "WrongWord$Asks" "kind" "I", Cond.fieldLink RX1 25 "WrongWord$Asks" "fee" "I", Cond.fieldLink RX1 18 "WrongWord$Asks" "number" "I", Cond.fieldLink RX1 28 "WrongWord$Asks" "took" "I", Cond.fieldLink RX1 31 "WrongWord$Asks" "begun" "I", Cond.fieldLink RX1 11 "WrongWord$Asks" "bodies" "[I"] : List Cond) ++ (([Cond.methodLink RX1 34 yX1_sizeBody, Cond.instanceMethod yX1_sizeBody, Cond.fieldLink RX1 45 "WrongWord$Asks" "SIZE_BODY" "[I", Cond.methodLink RX1 38 yX1_markBody, Cond.instanceMethod yX1_markBody, Cond.fieldLink RX1 48 "WrongWord$Asks" "MARK_BODY" "[I", Cond.methodLink RX1 41 yX1_given, Cond.static yX1_given, Cond.methodLink RX1 51 yX1_leave] : List Cond) ++ ([] : List Cond))))
def wsX1_answer : List Cond := .code yX1_answer cX1_answer 2 (some .int) :: (wsX1_answer_o ++ (wsX10 ++ (wsX1_sizeBody ++ (wsX1_markBody ++ (wsX1_given ++ ([] : List Cond))))))
set_option maxRecDepth 100000 in
theorem itX1_answer_o : ∀ w ∈ wsX1_answer_o, w ∈ lw_tbl := List.forall_mem_append.mpr ⟨fun w h => ch_0 w (mem_r (big := k2_sels lw_privs) _ [23, 24, 25] (by decide +kernel) w h), List.forall_mem_append.mpr ⟨fun w h => ch_1 w (mem_r (big := tables_1_1) _ [7, 202, 203, 201, 204, 199, 197] (by decide +kernel) w h), List.forall_mem_append.mpr ⟨fun w h => ch_4 w (mem_r (big := tables_1_4) _ [5, 7, 9, 11, 13, 15, 17, 18, 20] (by decide +kernel) w h), fun _ h => absurd h List.not_mem_nil⟩⟩⟩
set_option maxRecDepth 100000 in
theorem itX1_answer : ∀ w ∈ wsX1_answer, w ∈ lw_tbl := List.forall_mem_cons.mpr ⟨ch_4 _ (List.mem_of_getElem? (l := tables_1_4) (i := 4) (by decide +kernel)), List.forall_mem_append.mpr ⟨itX1_answer_o, List.forall_mem_append.mpr ⟨itX10, List.forall_mem_append.mpr ⟨itX1_sizeBody, List.forall_mem_append.mpr ⟨itX1_markBody, List.forall_mem_append.mpr ⟨itX1_given, fun _ h => absurd h List.not_mem_nil⟩⟩⟩⟩⟩⟩
set_option maxRecDepth 100000 in
theorem gdX1_answer_o : ∀ w ∈ wsX1_answer_o, goodWord w = true := gd_o (by decide +kernel)
set_option maxRecDepth 100000 in
theorem gdX1_answer : ∀ w ∈ wsX1_answer, goodWord w = true := List.forall_mem_cons.mpr ⟨by decide +kernel, List.forall_mem_append.mpr ⟨gdX1_answer_o, List.forall_mem_append.mpr ⟨gdX10, List.forall_mem_append.mpr ⟨gdX1_sizeBody, List.forall_mem_append.mpr ⟨gdX1_markBody, List.forall_mem_append.mpr ⟨gdX1_given, fun _ h => absurd h List.not_mem_nil⟩⟩⟩⟩⟩⟩
def wsX2_init_o : List Cond := (([Cond.methodLink RX2 3 objectInit, Cond.fieldLink RX2 9 "WrongWord$Gate" "letters" "[I", Cond.fieldLink RX2 15 "WrongWord$Gate" "kinds" "[I", Cond.fieldLink RX2 18 "WrongWord$Gate" "fees" "[I", Cond.classLink RX2 21 RX4, Cond.instantiable RX4 8, Cond.initialized RX4, Cond.fieldLink RX2 24 "WrongWord$Gate" "now" "LWrongWord$Moment;", Cond.instanceMethod yX4_init] : List Cond) ++ ([] : List Cond))
def wsX2_init : List Cond := .code yX2_init cX2_init 1 none :: (wsX2_init_o ++ (wsX20 ++ (wsX40 ++ (wsX4_init ++ ([] : List Cond)))))
set_option maxRecDepth 100000 in
theorem itX2_init_o : ∀ w ∈ wsX2_init_o, w ∈ lw_tbl := List.forall_mem_append.mpr ⟨fun w h => ch_1 w (mem_r (big := tables_1_1) _ [34, 84, 87, 91, 35, 36, 4, 94, 38] (by decide +kernel) w h), fun _ h => absurd h List.not_mem_nil⟩
set_option maxRecDepth 100000 in
theorem itX2_init : ∀ w ∈ wsX2_init, w ∈ lw_tbl := List.forall_mem_cons.mpr ⟨ch_1 _ (List.mem_of_getElem? (l := tables_1_1) (i := 33) (by decide +kernel)), List.forall_mem_append.mpr ⟨itX2_init_o, List.forall_mem_append.mpr ⟨itX20, List.forall_mem_append.mpr ⟨itX40, List.forall_mem_append.mpr ⟨itX4_init, fun _ h => absurd h List.not_mem_nil⟩⟩⟩⟩⟩
set_option maxRecDepth 100000 in
theorem gdX2_init_o : ∀ w ∈ wsX2_init_o, goodWord w = true := gd_o (by decide +kernel)
set_option maxRecDepth 100000 in
theorem gdX2_init : ∀ w ∈ wsX2_init, goodWord w = true := List.forall_mem_cons.mpr ⟨by decide +kernel, List.forall_mem_append.mpr ⟨gdX2_init_o, List.forall_mem_append.mpr ⟨gdX20, List.forall_mem_append.mpr ⟨gdX40, List.forall_mem_append.mpr ⟨gdX4_init, fun _ h => absurd h List.not_mem_nil⟩⟩⟩⟩⟩
def wsX2_become_o : List Cond := (([Cond.fieldLink RX2 9 "WrongWord$Gate" "letters" "[I", Cond.fieldLink RX2 15 "WrongWord$Gate" "kinds" "[I", Cond.fieldLink RX2 18 "WrongWord$Gate" "fees" "[I", Cond.fieldLink RX2 24 "WrongWord$Gate" "now" "LWrongWord$Moment;", Cond.fieldLink RX2 38 "WrongWord$Gate" "step" "I", Cond.fieldLink RX2 42 "WrongWord$Gate" "shrove" "I", Cond.fieldLink RX2 45 "WrongWord$Gate" "words" "I", Cond.fieldLink RX2 48 "WrongWord$Gate" "guards" "I", Cond.initialized RX4] : List Cond) ++ (([Cond.methodLink RX2 28 arraycopyName, Cond.methodLink RX2 34 yX4_become, Cond.instanceMethod yX4_become, Cond.selects RX4 yX4_become yX4_become] : List Cond) ++ ([] : List Cond)))
def wsX2_become : List Cond := .code yX2_become cX2_become 2 none :: (wsX2_become_o ++ (wsX20 ++ (wsX40 ++ (wsX4_become ++ ([] : List Cond)))))
set_option maxRecDepth 100000 in
theorem itX2_become_o : ∀ w ∈ wsX2_become_o, w ∈ lw_tbl := List.forall_mem_append.mpr ⟨fun w h => ch_1 w (mem_r (big := tables_1_1) _ [84, 87, 91, 94, 98, 101, 105, 108, 4] (by decide +kernel) w h), List.forall_mem_append.mpr ⟨fun w h => ch_2 w (mem_r (big := tables_1_2) _ [143, 144, 145, 146] (by decide +kernel) w h), fun _ h => absurd h List.not_mem_nil⟩⟩
set_option maxRecDepth 100000 in
theorem itX2_become : ∀ w ∈ wsX2_become, w ∈ lw_tbl := List.forall_mem_cons.mpr ⟨ch_2 _ (List.mem_of_getElem? (l := tables_1_2) (i := 142) (by decide +kernel)), List.forall_mem_append.mpr ⟨itX2_become_o, List.forall_mem_append.mpr ⟨itX20, List.forall_mem_append.mpr ⟨itX40, List.forall_mem_append.mpr ⟨itX4_become, fun _ h => absurd h List.not_mem_nil⟩⟩⟩⟩⟩
set_option maxRecDepth 100000 in
theorem gdX2_become_o : ∀ w ∈ wsX2_become_o, goodWord w = true := gd_o (by decide +kernel)
set_option maxRecDepth 100000 in
theorem gdX2_become : ∀ w ∈ wsX2_become, goodWord w = true := List.forall_mem_cons.mpr ⟨by decide +kernel, List.forall_mem_append.mpr ⟨gdX2_become_o, List.forall_mem_append.mpr ⟨gdX20, List.forall_mem_append.mpr ⟨gdX40, List.forall_mem_append.mpr ⟨gdX4_become, fun _ h => absurd h List.not_mem_nil⟩⟩⟩⟩⟩
def wsX7_rest_o : List Cond := ([] : List Cond)
def wsX7_rest : List Cond := .code yX7_rest cX7_rest 2 (some .int) :: (wsX7_rest_o ++ ([] : List Cond))
set_option maxRecDepth 100000 in
theorem itX7_rest_o : ∀ w ∈ wsX7_rest_o, w ∈ lw_tbl := fun _ h => absurd h List.not_mem_nil
set_option maxRecDepth 100000 in
theorem itX7_rest : ∀ w ∈ wsX7_rest, w ∈ lw_tbl := List.forall_mem_cons.mpr ⟨ch_2 _ (List.mem_of_getElem? (l := tables_1_2) (i := 188) (by decide +kernel)), List.forall_mem_append.mpr ⟨itX7_rest_o, fun _ h => absurd h List.not_mem_nil⟩⟩
set_option maxRecDepth 100000 in
theorem gdX7_rest_o : ∀ w ∈ wsX7_rest_o, goodWord w = true := gd_o (by decide +kernel)
set_option maxRecDepth 100000 in
theorem gdX7_rest : ∀ w ∈ wsX7_rest, goodWord w = true := List.forall_mem_cons.mpr ⟨by decide +kernel, List.forall_mem_append.mpr ⟨gdX7_rest_o, fun _ h => absurd h List.not_mem_nil⟩⟩
def wsX2_secretBy_o : List Cond := (([Cond.fieldLink RX2 45 "WrongWord$Gate" "words" "I", Cond.initialized RX7] : List Cond) ++ (([Cond.static yX7_rest] : List Cond) ++ ([] : List Cond)))
def wsX2_secretBy : List Cond := .code yX2_secretBy cX2_secretBy 5 (some .int) :: (wsX2_secretBy_o ++ (wsX20 ++ (wsX7_rest ++ ([] : List Cond))))
set_option maxRecDepth 100000 in
theorem itX2_secretBy_o : ∀ w ∈ wsX2_secretBy_o, w ∈ lw_tbl := List.forall_mem_append.mpr ⟨fun w h => ch_1 w (mem_r (big := tables_1_1) _ [105, 1] (by decide +kernel) w h), List.forall_mem_append.mpr ⟨fun w h => ch_2 w (mem_r (big := tables_1_2) _ [187] (by decide +kernel) w h), fun _ h => absurd h List.not_mem_nil⟩⟩
set_option maxRecDepth 100000 in
theorem itX2_secretBy : ∀ w ∈ wsX2_secretBy, w ∈ lw_tbl := List.forall_mem_cons.mpr ⟨ch_2 _ (List.mem_of_getElem? (l := tables_1_2) (i := 185) (by decide +kernel)), List.forall_mem_append.mpr ⟨itX2_secretBy_o, List.forall_mem_append.mpr ⟨itX20, List.forall_mem_append.mpr ⟨itX7_rest, fun _ h => absurd h List.not_mem_nil⟩⟩⟩⟩
set_option maxRecDepth 100000 in
theorem gdX2_secretBy_o : ∀ w ∈ wsX2_secretBy_o, goodWord w = true := gd_o (by decide +kernel)
set_option maxRecDepth 100000 in
theorem gdX2_secretBy : ∀ w ∈ wsX2_secretBy, goodWord w = true := List.forall_mem_cons.mpr ⟨by decide +kernel, List.forall_mem_append.mpr ⟨gdX2_secretBy_o, List.forall_mem_append.mpr ⟨gdX20, List.forall_mem_append.mpr ⟨gdX7_rest, fun _ h => absurd h List.not_mem_nil⟩⟩⟩⟩
def wsX2_secretIn_o : List Cond := (([Cond.fieldLink RX2 24 "WrongWord$Gate" "now" "LWrongWord$Moment;", Cond.fieldLink RX2 55 "WrongWord$Moment" "start" "I", Cond.fieldLink RX2 38 "WrongWord$Gate" "step" "I", Cond.fieldLink RX2 42 "WrongWord$Gate" "shrove" "I", Cond.fieldLink RX2 58 "WrongWord$Moment" "night" "I", Cond.initialized RX2, Cond.fieldLink RX2 45 "WrongWord$Gate" "words" "I"] : List Cond) ++ (([Cond.methodLink RX2 61 yX2_secretBy, Cond.instanceMethod yX2_secretBy, Cond.selects RX2 yX2_secretBy yX2_secretBy] : List Cond) ++ ([] : List Cond)))
def wsX2_secretIn : List Cond := .code yX2_secretIn cX2_secretIn 2 (some .int) :: (wsX2_secretIn_o ++ (wsX20 ++ (wsX40 ++ (wsX2_secretBy ++ ([] : List Cond)))))
set_option maxRecDepth 100000 in
theorem itX2_secretIn_o : ∀ w ∈ wsX2_secretIn_o, w ∈ lw_tbl := List.forall_mem_append.mpr ⟨fun w h => ch_1 w (mem_r (big := tables_1_1) _ [94, 57, 98, 101, 54, 3, 105] (by decide +kernel) w h), List.forall_mem_append.mpr ⟨fun w h => ch_2 w (mem_r (big := tables_1_2) _ [182, 183, 184] (by decide +kernel) w h), fun _ h => absurd h List.not_mem_nil⟩⟩
set_option maxRecDepth 100000 in
theorem itX2_secretIn : ∀ w ∈ wsX2_secretIn, w ∈ lw_tbl := List.forall_mem_cons.mpr ⟨ch_2 _ (List.mem_of_getElem? (l := tables_1_2) (i := 181) (by decide +kernel)), List.forall_mem_append.mpr ⟨itX2_secretIn_o, List.forall_mem_append.mpr ⟨itX20, List.forall_mem_append.mpr ⟨itX40, List.forall_mem_append.mpr ⟨itX2_secretBy, fun _ h => absurd h List.not_mem_nil⟩⟩⟩⟩⟩
set_option maxRecDepth 100000 in
theorem gdX2_secretIn_o : ∀ w ∈ wsX2_secretIn_o, goodWord w = true := gd_o (by decide +kernel)
set_option maxRecDepth 100000 in
theorem gdX2_secretIn : ∀ w ∈ wsX2_secretIn, goodWord w = true := List.forall_mem_cons.mpr ⟨by decide +kernel, List.forall_mem_append.mpr ⟨gdX2_secretIn_o, List.forall_mem_append.mpr ⟨gdX20, List.forall_mem_append.mpr ⟨gdX40, List.forall_mem_append.mpr ⟨gdX2_secretBy, fun _ h => absurd h List.not_mem_nil⟩⟩⟩⟩⟩
def wsX2_distance_o : List Cond := (([Cond.fieldLink RX2 9 "WrongWord$Gate" "letters" "[I"] : List Cond) ++ ([] : List Cond))
def wsX2_distance : List Cond := .code yX2_distance cX2_distance 5 (some .int) :: (wsX2_distance_o ++ (wsX20 ++ ([] : List Cond)))
set_option maxRecDepth 100000 in
theorem itX2_distance_o : ∀ w ∈ wsX2_distance_o, w ∈ lw_tbl := List.forall_mem_append.mpr ⟨fun w h => ch_1 w (mem_r (big := tables_1_1) _ [84] (by decide +kernel) w h), fun _ h => absurd h List.not_mem_nil⟩
set_option maxRecDepth 100000 in
theorem itX2_distance : ∀ w ∈ wsX2_distance, w ∈ lw_tbl := List.forall_mem_cons.mpr ⟨ch_2 _ (List.mem_of_getElem? (l := tables_1_2) (i := 125) (by decide +kernel)), List.forall_mem_append.mpr ⟨itX2_distance_o, List.forall_mem_append.mpr ⟨itX20, fun _ h => absurd h List.not_mem_nil⟩⟩⟩
set_option maxRecDepth 100000 in
theorem gdX2_distance_o : ∀ w ∈ wsX2_distance_o, goodWord w = true := gd_o (by decide +kernel)
set_option maxRecDepth 100000 in
theorem gdX2_distance : ∀ w ∈ wsX2_distance, goodWord w = true := List.forall_mem_cons.mpr ⟨by decide +kernel, List.forall_mem_append.mpr ⟨gdX2_distance_o, List.forall_mem_append.mpr ⟨gdX20, fun _ h => absurd h List.not_mem_nil⟩⟩⟩
def wsX2_lips_o : List Cond := (([Cond.fieldLink RX2 9 "WrongWord$Gate" "letters" "[I"] : List Cond) ++ ([] : List Cond))
def wsX2_lips : List Cond := .code yX2_lips cX2_lips 5 (some .int) :: (wsX2_lips_o ++ (wsX20 ++ ([] : List Cond)))
set_option maxRecDepth 100000 in
theorem itX2_lips_o : ∀ w ∈ wsX2_lips_o, w ∈ lw_tbl := List.forall_mem_append.mpr ⟨fun w h => ch_1 w (mem_r (big := tables_1_1) _ [84] (by decide +kernel) w h), fun _ h => absurd h List.not_mem_nil⟩
set_option maxRecDepth 100000 in
theorem itX2_lips : ∀ w ∈ wsX2_lips, w ∈ lw_tbl := List.forall_mem_cons.mpr ⟨ch_2 _ (List.mem_of_getElem? (l := tables_1_2) (i := 227) (by decide +kernel)), List.forall_mem_append.mpr ⟨itX2_lips_o, List.forall_mem_append.mpr ⟨itX20, fun _ h => absurd h List.not_mem_nil⟩⟩⟩
set_option maxRecDepth 100000 in
theorem gdX2_lips_o : ∀ w ∈ wsX2_lips_o, goodWord w = true := gd_o (by decide +kernel)
set_option maxRecDepth 100000 in
theorem gdX2_lips : ∀ w ∈ wsX2_lips, goodWord w = true := List.forall_mem_cons.mpr ⟨by decide +kernel, List.forall_mem_append.mpr ⟨gdX2_lips_o, List.forall_mem_append.mpr ⟨gdX20, fun _ h => absurd h List.not_mem_nil⟩⟩⟩
def wsX2_guardOn_o : List Cond := (([Cond.fieldLink RX2 48 "WrongWord$Gate" "guards" "I", Cond.initialized RX7] : List Cond) ++ (([Cond.static yX7_rest] : List Cond) ++ ([] : List Cond)))
def wsX2_guardOn : List Cond := .code yX2_guardOn cX2_guardOn 3 (some .int) :: (wsX2_guardOn_o ++ (wsX20 ++ (wsX7_rest ++ ([] : List Cond))))
set_option maxRecDepth 100000 in
theorem itX2_guardOn_o : ∀ w ∈ wsX2_guardOn_o, w ∈ lw_tbl := List.forall_mem_append.mpr ⟨fun w h => ch_1 w (mem_r (big := tables_1_1) _ [108, 1] (by decide +kernel) w h), List.forall_mem_append.mpr ⟨fun w h => ch_2 w (mem_r (big := tables_1_2) _ [187] (by decide +kernel) w h), fun _ h => absurd h List.not_mem_nil⟩⟩
set_option maxRecDepth 100000 in
theorem itX2_guardOn : ∀ w ∈ wsX2_guardOn, w ∈ lw_tbl := List.forall_mem_cons.mpr ⟨ch_2 _ (List.mem_of_getElem? (l := tables_1_2) (i := 204) (by decide +kernel)), List.forall_mem_append.mpr ⟨itX2_guardOn_o, List.forall_mem_append.mpr ⟨itX20, List.forall_mem_append.mpr ⟨itX7_rest, fun _ h => absurd h List.not_mem_nil⟩⟩⟩⟩
set_option maxRecDepth 100000 in
theorem gdX2_guardOn_o : ∀ w ∈ wsX2_guardOn_o, goodWord w = true := gd_o (by decide +kernel)
set_option maxRecDepth 100000 in
theorem gdX2_guardOn : ∀ w ∈ wsX2_guardOn, goodWord w = true := List.forall_mem_cons.mpr ⟨by decide +kernel, List.forall_mem_append.mpr ⟨gdX2_guardOn_o, List.forall_mem_append.mpr ⟨gdX20, List.forall_mem_append.mpr ⟨gdX7_rest, fun _ h => absurd h List.not_mem_nil⟩⟩⟩⟩
def wsX2_isThere_o : List Cond := (([Cond.fieldLink RX2 24 "WrongWord$Gate" "now" "LWrongWord$Moment;", Cond.fieldLink RX2 65 "WrongWord$Moment" "there" "I"] : List Cond) ++ ([] : List Cond))
def wsX2_isThere : List Cond := .code yX2_isThere cX2_isThere 2 (some .boolean) :: (wsX2_isThere_o ++ (wsX20 ++ (wsX40 ++ ([] : List Cond))))
set_option maxRecDepth 100000 in
theorem itX2_isThere_o : ∀ w ∈ wsX2_isThere_o, w ∈ lw_tbl := List.forall_mem_append.mpr ⟨fun w h => ch_1 w (mem_r (big := tables_1_1) _ [94, 61] (by decide +kernel) w h), fun _ h => absurd h List.not_mem_nil⟩
set_option maxRecDepth 100000 in
theorem itX2_isThere : ∀ w ∈ wsX2_isThere, w ∈ lw_tbl := List.forall_mem_cons.mpr ⟨ch_2 _ (List.mem_of_getElem? (l := tables_1_2) (i := 218) (by decide +kernel)), List.forall_mem_append.mpr ⟨itX2_isThere_o, List.forall_mem_append.mpr ⟨itX20, List.forall_mem_append.mpr ⟨itX40, fun _ h => absurd h List.not_mem_nil⟩⟩⟩⟩
set_option maxRecDepth 100000 in
theorem gdX2_isThere_o : ∀ w ∈ wsX2_isThere_o, goodWord w = true := gd_o (by decide +kernel)
set_option maxRecDepth 100000 in
theorem gdX2_isThere : ∀ w ∈ wsX2_isThere, goodWord w = true := List.forall_mem_cons.mpr ⟨by decide +kernel, List.forall_mem_append.mpr ⟨gdX2_isThere_o, List.forall_mem_append.mpr ⟨gdX20, List.forall_mem_append.mpr ⟨gdX40, fun _ h => absurd h List.not_mem_nil⟩⟩⟩⟩
def wsX2_wouldTake_o : List Cond := (([Cond.initialized RX2, Cond.fieldLink RX2 9 "WrongWord$Gate" "letters" "[I"] : List Cond) ++ (([Cond.methodLink RX2 68 yX2_distance, Cond.instanceMethod yX2_distance, Cond.selects RX2 yX2_distance yX2_distance, Cond.methodLink RX2 71 yX2_lips, Cond.instanceMethod yX2_lips, Cond.selects RX2 yX2_lips yX2_lips] : List Cond) ++ ([] : List Cond)))
def wsX2_wouldTake : List Cond := .code yX2_wouldTake cX2_wouldTake 5 (some .boolean) :: (wsX2_wouldTake_o ++ (wsX20 ++ (wsX2_distance ++ (wsX2_lips ++ ([] : List Cond)))))
set_option maxRecDepth 100000 in
theorem itX2_wouldTake_o : ∀ w ∈ wsX2_wouldTake_o, w ∈ lw_tbl := List.forall_mem_append.mpr ⟨fun w h => ch_1 w (mem_r (big := tables_1_1) _ [3, 84] (by decide +kernel) w h), List.forall_mem_append.mpr ⟨fun w h => ch_2 w (mem_r (big := tables_1_2) _ [223, 123, 124, 224, 225, 226] (by decide +kernel) w h), fun _ h => absurd h List.not_mem_nil⟩⟩
set_option maxRecDepth 100000 in
theorem itX2_wouldTake : ∀ w ∈ wsX2_wouldTake, w ∈ lw_tbl := List.forall_mem_cons.mpr ⟨ch_2 _ (List.mem_of_getElem? (l := tables_1_2) (i := 222) (by decide +kernel)), List.forall_mem_append.mpr ⟨itX2_wouldTake_o, List.forall_mem_append.mpr ⟨itX20, List.forall_mem_append.mpr ⟨itX2_distance, List.forall_mem_append.mpr ⟨itX2_lips, fun _ h => absurd h List.not_mem_nil⟩⟩⟩⟩⟩
set_option maxRecDepth 100000 in
theorem gdX2_wouldTake_o : ∀ w ∈ wsX2_wouldTake_o, goodWord w = true := gd_o (by decide +kernel)
set_option maxRecDepth 100000 in
theorem gdX2_wouldTake : ∀ w ∈ wsX2_wouldTake, goodWord w = true := List.forall_mem_cons.mpr ⟨by decide +kernel, List.forall_mem_append.mpr ⟨gdX2_wouldTake_o, List.forall_mem_append.mpr ⟨gdX20, List.forall_mem_append.mpr ⟨gdX2_distance, List.forall_mem_append.mpr ⟨gdX2_lips, fun _ h => absurd h List.not_mem_nil⟩⟩⟩⟩⟩
def wsX2_catchesIf_o : List Cond := (([Cond.fieldLink RX2 15 "WrongWord$Gate" "kinds" "[I", Cond.initialized RX2, Cond.fieldLink RX2 48 "WrongWord$Gate" "guards" "I", Cond.fieldLink RX2 24 "WrongWord$Gate" "now" "LWrongWord$Moment;", Cond.fieldLink RX2 65 "WrongWord$Moment" "there" "I", Cond.fieldLink RX2 9 "WrongWord$Gate" "letters" "[I"] : List Cond) ++ (([Cond.methodLink RX2 74 yX2_guardOn, Cond.instanceMethod yX2_guardOn, Cond.selects RX2 yX2_guardOn yX2_guardOn, Cond.methodLink RX2 77 yX2_isThere, Cond.instanceMethod yX2_isThere, Cond.selects RX2 yX2_isThere yX2_isThere, Cond.methodLink RX2 81 yX2_wouldTake, Cond.instanceMethod yX2_wouldTake, Cond.selects RX2 yX2_wouldTake yX2_wouldTake, Cond.methodLink RX2 68 yX2_distance, Cond.selects RX2 yX2_distance yX2_distance, Cond.methodLink RX2 71 yX2_lips, Cond.selects RX2 yX2_lips yX2_lips] : List Cond) ++ ([] : List Cond)))
def wsX2_catchesIf : List Cond := .code yX2_catchesIf cX2_catchesIf 6 (some .boolean) :: (wsX2_catchesIf_o ++ (wsX20 ++ (wsX40 ++ (wsX2_guardOn ++ (wsX2_isThere ++ (wsX2_wouldTake ++ ([] : List Cond)))))))
set_option maxRecDepth 100000 in
theorem itX2_catchesIf_o : ∀ w ∈ wsX2_catchesIf_o, w ∈ lw_tbl := List.forall_mem_append.mpr ⟨fun w h => ch_1 w (mem_r (big := tables_1_1) _ [87, 3, 108, 94, 61, 84] (by decide +kernel) w h), List.forall_mem_append.mpr ⟨fun w h => ch_2 w (mem_r (big := tables_1_2) _ [214, 202, 203, 215, 216, 217, 219, 220, 221, 223, 124, 224, 226] (by decide +kernel) w h), fun _ h => absurd h List.not_mem_nil⟩⟩
set_option maxRecDepth 100000 in
theorem itX2_catchesIf : ∀ w ∈ wsX2_catchesIf, w ∈ lw_tbl := List.forall_mem_cons.mpr ⟨ch_2 _ (List.mem_of_getElem? (l := tables_1_2) (i := 213) (by decide +kernel)), List.forall_mem_append.mpr ⟨itX2_catchesIf_o, List.forall_mem_append.mpr ⟨itX20, List.forall_mem_append.mpr ⟨itX40, List.forall_mem_append.mpr ⟨itX2_guardOn, List.forall_mem_append.mpr ⟨itX2_isThere, List.forall_mem_append.mpr ⟨itX2_wouldTake, fun _ h => absurd h List.not_mem_nil⟩⟩⟩⟩⟩⟩⟩
set_option maxRecDepth 100000 in
theorem gdX2_catchesIf_o : ∀ w ∈ wsX2_catchesIf_o, goodWord w = true := gd_o (by decide +kernel)
set_option maxRecDepth 100000 in
theorem gdX2_catchesIf : ∀ w ∈ wsX2_catchesIf, goodWord w = true := List.forall_mem_cons.mpr ⟨by decide +kernel, List.forall_mem_append.mpr ⟨gdX2_catchesIf_o, List.forall_mem_append.mpr ⟨gdX20, List.forall_mem_append.mpr ⟨gdX40, List.forall_mem_append.mpr ⟨gdX2_guardOn, List.forall_mem_append.mpr ⟨gdX2_isThere, List.forall_mem_append.mpr ⟨gdX2_wouldTake, fun _ h => absurd h List.not_mem_nil⟩⟩⟩⟩⟩⟩⟩
def wsX2_catches_o : List Cond := (([Cond.fieldLink RX2 24 "WrongWord$Gate" "now" "LWrongWord$Moment;", Cond.fieldLink RX2 58 "WrongWord$Moment" "night" "I", Cond.initialized RX2, Cond.fieldLink RX2 55 "WrongWord$Moment" "start" "I", Cond.fieldLink RX2 38 "WrongWord$Gate" "step" "I", Cond.fieldLink RX2 42 "WrongWord$Gate" "shrove" "I", Cond.fieldLink RX2 45 "WrongWord$Gate" "words" "I", Cond.fieldLink RX2 15 "WrongWord$Gate" "kinds" "[I", Cond.fieldLink RX2 48 "WrongWord$Gate" "guards" "I", Cond.fieldLink RX2 65 "WrongWord$Moment" "there" "I", Cond.fieldLink RX2 9 "WrongWord$Gate" "letters" "[I"] : List Cond) ++ (([Cond.methodLink RX2 85 yX2_secretIn, Cond.instanceMethod yX2_secretIn, Cond.selects RX2 yX2_secretIn yX2_secretIn, Cond.methodLink RX2 61 yX2_secretBy, Cond.selects RX2 yX2_secretBy yX2_secretBy, Cond.methodLink RX2 89 yX2_catchesIf, Cond.instanceMethod yX2_catchesIf, Cond.selects RX2 yX2_catchesIf yX2_catchesIf, Cond.methodLink RX2 74 yX2_guardOn, Cond.selects RX2 yX2_guardOn yX2_guardOn, Cond.methodLink RX2 77 yX2_isThere, Cond.selects RX2 yX2_isThere yX2_isThere, Cond.methodLink RX2 81 yX2_wouldTake, Cond.selects RX2 yX2_wouldTake yX2_wouldTake, Cond.methodLink RX2 68 yX2_distance, Cond.selects RX2 yX2_distance yX2_distance, Cond.methodLink RX2 71 yX2_lips, Cond.selects RX2 yX2_lips yX2_lips] : List Cond) ++ ([] : List Cond)))
def wsX2_catches : List Cond := .code yX2_catches cX2_catches 4 (some .boolean) :: (wsX2_catches_o ++ (wsX20 ++ (wsX40 ++ (wsX2_secretIn ++ (wsX2_catchesIf ++ ([] : List Cond))))))
set_option maxRecDepth 100000 in
theorem itX2_catches_o : ∀ w ∈ wsX2_catches_o, w ∈ lw_tbl := List.forall_mem_append.mpr ⟨fun w h => ch_1 w (mem_r (big := tables_1_1) _ [94, 54, 3, 57, 98, 101, 105, 87, 108, 61, 84] (by decide +kernel) w h), List.forall_mem_append.mpr ⟨fun w h => ch_2 w (mem_r (big := tables_1_2) _ [209, 179, 180, 182, 184, 210, 211, 212, 214, 203, 215, 217, 219, 221, 223, 124, 224, 226] (by decide +kernel) w h), fun _ h => absurd h List.not_mem_nil⟩⟩
set_option maxRecDepth 100000 in
theorem itX2_catches : ∀ w ∈ wsX2_catches, w ∈ lw_tbl := List.forall_mem_cons.mpr ⟨ch_2 _ (List.mem_of_getElem? (l := tables_1_2) (i := 208) (by decide +kernel)), List.forall_mem_append.mpr ⟨itX2_catches_o, List.forall_mem_append.mpr ⟨itX20, List.forall_mem_append.mpr ⟨itX40, List.forall_mem_append.mpr ⟨itX2_secretIn, List.forall_mem_append.mpr ⟨itX2_catchesIf, fun _ h => absurd h List.not_mem_nil⟩⟩⟩⟩⟩⟩
set_option maxRecDepth 100000 in
theorem gdX2_catches_o : ∀ w ∈ wsX2_catches_o, goodWord w = true := gd_o (by decide +kernel)
set_option maxRecDepth 100000 in
theorem gdX2_catches : ∀ w ∈ wsX2_catches, goodWord w = true := List.forall_mem_cons.mpr ⟨by decide +kernel, List.forall_mem_append.mpr ⟨gdX2_catches_o, List.forall_mem_append.mpr ⟨gdX20, List.forall_mem_append.mpr ⟨gdX40, List.forall_mem_append.mpr ⟨gdX2_secretIn, List.forall_mem_append.mpr ⟨gdX2_catchesIf, fun _ h => absurd h List.not_mem_nil⟩⟩⟩⟩⟩⟩
def wsX7_bit_o : List Cond := ([] : List Cond)
def wsX7_bit : List Cond := .code yX7_bit cX7_bit 1 (some .int) :: (wsX7_bit_o ++ ([] : List Cond))
set_option maxRecDepth 100000 in
theorem itX7_bit_o : ∀ w ∈ wsX7_bit_o, w ∈ lw_tbl := fun _ h => absurd h List.not_mem_nil
set_option maxRecDepth 100000 in
theorem itX7_bit : ∀ w ∈ wsX7_bit, w ∈ lw_tbl := List.forall_mem_cons.mpr ⟨ch_2 _ (List.mem_of_getElem? (l := tables_1_2) (i := 236) (by decide +kernel)), List.forall_mem_append.mpr ⟨itX7_bit_o, fun _ h => absurd h List.not_mem_nil⟩⟩
set_option maxRecDepth 100000 in
theorem gdX7_bit_o : ∀ w ∈ wsX7_bit_o, goodWord w = true := gd_o (by decide +kernel)
set_option maxRecDepth 100000 in
theorem gdX7_bit : ∀ w ∈ wsX7_bit, goodWord w = true := List.forall_mem_cons.mpr ⟨by decide +kernel, List.forall_mem_append.mpr ⟨gdX7_bit_o, fun _ h => absurd h List.not_mem_nil⟩⟩
def wsX2_hoursOf_o : List Cond := (([Cond.fieldLink RX2 24 "WrongWord$Gate" "now" "LWrongWord$Moment;", Cond.fieldLink RX2 58 "WrongWord$Moment" "night" "I", Cond.initialized RX2, Cond.fieldLink RX2 48 "WrongWord$Gate" "guards" "I"] : List Cond) ++ (([Cond.methodLink RX2 74 yX2_guardOn, Cond.instanceMethod yX2_guardOn, Cond.selects RX2 yX2_guardOn yX2_guardOn, Cond.static yX7_bit] : List Cond) ++ ([] : List Cond)))
def wsX2_hoursOf : List Cond := .code yX2_hoursOf cX2_hoursOf 4 (some .int) :: (wsX2_hoursOf_o ++ (wsX20 ++ (wsX40 ++ (wsX2_guardOn ++ (wsX7_bit ++ ([] : List Cond))))))
set_option maxRecDepth 100000 in
theorem itX2_hoursOf_o : ∀ w ∈ wsX2_hoursOf_o, w ∈ lw_tbl := List.forall_mem_append.mpr ⟨fun w h => ch_1 w (mem_r (big := tables_1_1) _ [94, 54, 3, 108] (by decide +kernel) w h), List.forall_mem_append.mpr ⟨fun w h => ch_2 w (mem_r (big := tables_1_2) _ [214, 202, 203, 235] (by decide +kernel) w h), fun _ h => absurd h List.not_mem_nil⟩⟩
set_option maxRecDepth 100000 in
theorem itX2_hoursOf : ∀ w ∈ wsX2_hoursOf, w ∈ lw_tbl := List.forall_mem_cons.mpr ⟨ch_3 _ (List.mem_of_getElem? (l := tables_1_3) (i := 35) (by decide +kernel)), List.forall_mem_append.mpr ⟨itX2_hoursOf_o, List.forall_mem_append.mpr ⟨itX20, List.forall_mem_append.mpr ⟨itX40, List.forall_mem_append.mpr ⟨itX2_guardOn, List.forall_mem_append.mpr ⟨itX7_bit, fun _ h => absurd h List.not_mem_nil⟩⟩⟩⟩⟩⟩
set_option maxRecDepth 100000 in
theorem gdX2_hoursOf_o : ∀ w ∈ wsX2_hoursOf_o, goodWord w = true := gd_o (by decide +kernel)
set_option maxRecDepth 100000 in
theorem gdX2_hoursOf : ∀ w ∈ wsX2_hoursOf, goodWord w = true := List.forall_mem_cons.mpr ⟨by decide +kernel, List.forall_mem_append.mpr ⟨gdX2_hoursOf_o, List.forall_mem_append.mpr ⟨gdX20, List.forall_mem_append.mpr ⟨gdX40, List.forall_mem_append.mpr ⟨gdX2_guardOn, List.forall_mem_append.mpr ⟨gdX7_bit, fun _ h => absurd h List.not_mem_nil⟩⟩⟩⟩⟩⟩
def wsX2_wordsIn_o : List Cond := (([Cond.fieldLink RX2 45 "WrongWord$Gate" "words" "I", Cond.initialized RX2, Cond.fieldLink RX2 24 "WrongWord$Gate" "now" "LWrongWord$Moment;", Cond.fieldLink RX2 58 "WrongWord$Moment" "night" "I", Cond.fieldLink RX2 55 "WrongWord$Moment" "start" "I", Cond.fieldLink RX2 38 "WrongWord$Gate" "step" "I", Cond.fieldLink RX2 42 "WrongWord$Gate" "shrove" "I", Cond.fieldLink RX2 15 "WrongWord$Gate" "kinds" "[I", Cond.fieldLink RX2 48 "WrongWord$Gate" "guards" "I", Cond.fieldLink RX2 65 "WrongWord$Moment" "there" "I", Cond.fieldLink RX2 9 "WrongWord$Gate" "letters" "[I"] : List Cond) ++ (([Cond.instanceMethod yX2_catches, Cond.selects RX2 yX2_catches yX2_catches, Cond.methodLink RX2 85 yX2_secretIn, Cond.selects RX2 yX2_secretIn yX2_secretIn, Cond.methodLink RX2 61 yX2_secretBy, Cond.selects RX2 yX2_secretBy yX2_secretBy, Cond.methodLink RX2 89 yX2_catchesIf, Cond.selects RX2 yX2_catchesIf yX2_catchesIf, Cond.methodLink RX2 74 yX2_guardOn, Cond.selects RX2 yX2_guardOn yX2_guardOn, Cond.methodLink RX2 77 yX2_isThere, Cond.selects RX2 yX2_isThere yX2_isThere, Cond.methodLink RX2 81 yX2_wouldTake, Cond.selects RX2 yX2_wouldTake yX2_wouldTake, Cond.methodLink RX2 68 yX2_distance, Cond.selects RX2 yX2_distance yX2_distance, Cond.methodLink RX2 71 yX2_lips, Cond.selects RX2 yX2_lips yX2_lips, Cond.static yX7_bit] : List Cond) ++ (([Cond.methodLink RX2 96 yX2_catches] : List Cond) ++ ([] : List Cond))))
def wsX2_wordsIn : List Cond := .code yX2_wordsIn cX2_wordsIn 5 (some .int) :: (wsX2_wordsIn_o ++ (wsX20 ++ (wsX40 ++ (wsX2_catches ++ (wsX7_bit ++ ([] : List Cond))))))
set_option maxRecDepth 100000 in
theorem itX2_wordsIn_o : ∀ w ∈ wsX2_wordsIn_o, w ∈ lw_tbl := List.forall_mem_append.mpr ⟨fun w h => ch_1 w (mem_r (big := tables_1_1) _ [105, 3, 94, 54, 57, 98, 101, 87, 108, 61, 84] (by decide +kernel) w h), List.forall_mem_append.mpr ⟨fun w h => ch_2 w (mem_r (big := tables_1_2) _ [206, 207, 209, 180, 182, 184, 210, 212, 214, 203, 215, 217, 219, 221, 223, 124, 224, 226, 235] (by decide +kernel) w h), List.forall_mem_append.mpr ⟨fun w h => ch_3 w (mem_r (big := tables_1_3) _ [61] (by decide +kernel) w h), fun _ h => absurd h List.not_mem_nil⟩⟩⟩
set_option maxRecDepth 100000 in
theorem itX2_wordsIn : ∀ w ∈ wsX2_wordsIn, w ∈ lw_tbl := List.forall_mem_cons.mpr ⟨ch_3 _ (List.mem_of_getElem? (l := tables_1_3) (i := 60) (by decide +kernel)), List.forall_mem_append.mpr ⟨itX2_wordsIn_o, List.forall_mem_append.mpr ⟨itX20, List.forall_mem_append.mpr ⟨itX40, List.forall_mem_append.mpr ⟨itX2_catches, List.forall_mem_append.mpr ⟨itX7_bit, fun _ h => absurd h List.not_mem_nil⟩⟩⟩⟩⟩⟩
set_option maxRecDepth 100000 in
theorem gdX2_wordsIn_o : ∀ w ∈ wsX2_wordsIn_o, goodWord w = true := gd_o (by decide +kernel)
set_option maxRecDepth 100000 in
theorem gdX2_wordsIn : ∀ w ∈ wsX2_wordsIn, goodWord w = true := List.forall_mem_cons.mpr ⟨by decide +kernel, List.forall_mem_append.mpr ⟨gdX2_wordsIn_o, List.forall_mem_append.mpr ⟨gdX20, List.forall_mem_append.mpr ⟨gdX40, List.forall_mem_append.mpr ⟨gdX2_catches, List.forall_mem_append.mpr ⟨gdX7_bit, fun _ h => absurd h List.not_mem_nil⟩⟩⟩⟩⟩⟩
def wsX2_hoursOpen_o : List Cond := (([Cond.initialized RX2, Cond.fieldLink RX2 45 "WrongWord$Gate" "words" "I", Cond.fieldLink RX2 24 "WrongWord$Gate" "now" "LWrongWord$Moment;", Cond.fieldLink RX2 58 "WrongWord$Moment" "night" "I", Cond.fieldLink RX2 55 "WrongWord$Moment" "start" "I", Cond.fieldLink RX2 38 "WrongWord$Gate" "step" "I", Cond.fieldLink RX2 42 "WrongWord$Gate" "shrove" "I", Cond.fieldLink RX2 15 "WrongWord$Gate" "kinds" "[I", Cond.fieldLink RX2 48 "WrongWord$Gate" "guards" "I", Cond.fieldLink RX2 65 "WrongWord$Moment" "there" "I", Cond.fieldLink RX2 9 "WrongWord$Gate" "letters" "[I"] : List Cond) ++ (([Cond.selects RX2 yX2_catches yX2_catches, Cond.methodLink RX2 85 yX2_secretIn, Cond.selects RX2 yX2_secretIn yX2_secretIn, Cond.methodLink RX2 61 yX2_secretBy, Cond.selects RX2 yX2_secretBy yX2_secretBy, Cond.methodLink RX2 89 yX2_catchesIf, Cond.selects RX2 yX2_catchesIf yX2_catchesIf, Cond.methodLink RX2 74 yX2_guardOn, Cond.selects RX2 yX2_guardOn yX2_guardOn, Cond.methodLink RX2 77 yX2_isThere, Cond.selects RX2 yX2_isThere yX2_isThere, Cond.methodLink RX2 81 yX2_wouldTake, Cond.selects RX2 yX2_wouldTake yX2_wouldTake, Cond.methodLink RX2 68 yX2_distance, Cond.selects RX2 yX2_distance yX2_distance, Cond.methodLink RX2 71 yX2_lips, Cond.selects RX2 yX2_lips yX2_lips, Cond.static yX7_bit] : List Cond) ++ (([Cond.methodLink RX2 100 yX2_wordsIn, Cond.instanceMethod yX2_wordsIn, Cond.selects RX2 yX2_wordsIn yX2_wordsIn, Cond.methodLink RX2 96 yX2_catches] : List Cond) ++ ([] : List Cond))))
def wsX2_hoursOpen : List Cond := .code yX2_hoursOpen cX2_hoursOpen 5 (some .int) :: (wsX2_hoursOpen_o ++ (wsX20 ++ (wsX40 ++ (wsX2_wordsIn ++ (wsX7_bit ++ ([] : List Cond))))))
set_option maxRecDepth 100000 in
theorem itX2_hoursOpen_o : ∀ w ∈ wsX2_hoursOpen_o, w ∈ lw_tbl := List.forall_mem_append.mpr ⟨fun w h => ch_1 w (mem_r (big := tables_1_1) _ [3, 105, 94, 54, 57, 98, 101, 87, 108, 61, 84] (by decide +kernel) w h), List.forall_mem_append.mpr ⟨fun w h => ch_2 w (mem_r (big := tables_1_2) _ [207, 209, 180, 182, 184, 210, 212, 214, 203, 215, 217, 219, 221, 223, 124, 224, 226, 235] (by decide +kernel) w h), List.forall_mem_append.mpr ⟨fun w h => ch_3 w (mem_r (big := tables_1_3) _ [74, 58, 59, 61] (by decide +kernel) w h), fun _ h => absurd h List.not_mem_nil⟩⟩⟩
set_option maxRecDepth 100000 in
theorem itX2_hoursOpen : ∀ w ∈ wsX2_hoursOpen, w ∈ lw_tbl := List.forall_mem_cons.mpr ⟨ch_3 _ (List.mem_of_getElem? (l := tables_1_3) (i := 73) (by decide +kernel)), List.forall_mem_append.mpr ⟨itX2_hoursOpen_o, List.forall_mem_append.mpr ⟨itX20, List.forall_mem_append.mpr ⟨itX40, List.forall_mem_append.mpr ⟨itX2_wordsIn, List.forall_mem_append.mpr ⟨itX7_bit, fun _ h => absurd h List.not_mem_nil⟩⟩⟩⟩⟩⟩
set_option maxRecDepth 100000 in
theorem gdX2_hoursOpen_o : ∀ w ∈ wsX2_hoursOpen_o, goodWord w = true := gd_o (by decide +kernel)
set_option maxRecDepth 100000 in
theorem gdX2_hoursOpen : ∀ w ∈ wsX2_hoursOpen, goodWord w = true := List.forall_mem_cons.mpr ⟨by decide +kernel, List.forall_mem_append.mpr ⟨gdX2_hoursOpen_o, List.forall_mem_append.mpr ⟨gdX20, List.forall_mem_append.mpr ⟨gdX40, List.forall_mem_append.mpr ⟨gdX2_wordsIn, List.forall_mem_append.mpr ⟨gdX7_bit, fun _ h => absurd h List.not_mem_nil⟩⟩⟩⟩⟩⟩
def wsX2_nightsUntil_o : List Cond := (([Cond.initialized RX2, Cond.fieldLink RX2 24 "WrongWord$Gate" "now" "LWrongWord$Moment;", Cond.fieldLink RX2 55 "WrongWord$Moment" "start" "I", Cond.fieldLink RX2 38 "WrongWord$Gate" "step" "I", Cond.fieldLink RX2 42 "WrongWord$Gate" "shrove" "I", Cond.fieldLink RX2 58 "WrongWord$Moment" "night" "I", Cond.fieldLink RX2 45 "WrongWord$Gate" "words" "I"] : List Cond) ++ (([Cond.methodLink RX2 85 yX2_secretIn, Cond.instanceMethod yX2_secretIn, Cond.selects RX2 yX2_secretIn yX2_secretIn, Cond.methodLink RX2 61 yX2_secretBy, Cond.selects RX2 yX2_secretBy yX2_secretBy] : List Cond) ++ (([Cond.constant RX2 103 (-1000000)] : List Cond) ++ ([] : List Cond))))
def wsX2_nightsUntil : List Cond := .code yX2_nightsUntil cX2_nightsUntil 3 (some .int) :: (wsX2_nightsUntil_o ++ (wsX20 ++ (wsX40 ++ (wsX2_secretIn ++ ([] : List Cond)))))
set_option maxRecDepth 100000 in
theorem itX2_nightsUntil_o : ∀ w ∈ wsX2_nightsUntil_o, w ∈ lw_tbl := List.forall_mem_append.mpr ⟨fun w h => ch_1 w (mem_r (big := tables_1_1) _ [3, 94, 57, 98, 101, 54, 105] (by decide +kernel) w h), List.forall_mem_append.mpr ⟨fun w h => ch_2 w (mem_r (big := tables_1_2) _ [209, 179, 180, 182, 184] (by decide +kernel) w h), List.forall_mem_append.mpr ⟨fun w h => ch_3 w (mem_r (big := tables_1_3) _ [83] (by decide +kernel) w h), fun _ h => absurd h List.not_mem_nil⟩⟩⟩
set_option maxRecDepth 100000 in
theorem itX2_nightsUntil : ∀ w ∈ wsX2_nightsUntil, w ∈ lw_tbl := List.forall_mem_cons.mpr ⟨ch_3 _ (List.mem_of_getElem? (l := tables_1_3) (i := 82) (by decide +kernel)), List.forall_mem_append.mpr ⟨itX2_nightsUntil_o, List.forall_mem_append.mpr ⟨itX20, List.forall_mem_append.mpr ⟨itX40, List.forall_mem_append.mpr ⟨itX2_secretIn, fun _ h => absurd h List.not_mem_nil⟩⟩⟩⟩⟩
set_option maxRecDepth 100000 in
theorem gdX2_nightsUntil_o : ∀ w ∈ wsX2_nightsUntil_o, goodWord w = true := gd_o (by decide +kernel)
set_option maxRecDepth 100000 in
theorem gdX2_nightsUntil : ∀ w ∈ wsX2_nightsUntil, goodWord w = true := List.forall_mem_cons.mpr ⟨by decide +kernel, List.forall_mem_append.mpr ⟨gdX2_nightsUntil_o, List.forall_mem_append.mpr ⟨gdX20, List.forall_mem_append.mpr ⟨gdX40, List.forall_mem_append.mpr ⟨gdX2_secretIn, fun _ h => absurd h List.not_mem_nil⟩⟩⟩⟩⟩
def wsX2_hourIn_o : List Cond := (([Cond.initialized RX2, Cond.fieldLink RX2 24 "WrongWord$Gate" "now" "LWrongWord$Moment;", Cond.fieldLink RX2 58 "WrongWord$Moment" "night" "I", Cond.fieldLink RX2 55 "WrongWord$Moment" "start" "I", Cond.fieldLink RX2 38 "WrongWord$Gate" "step" "I", Cond.fieldLink RX2 42 "WrongWord$Gate" "shrove" "I", Cond.fieldLink RX2 45 "WrongWord$Gate" "words" "I", Cond.fieldLink RX2 15 "WrongWord$Gate" "kinds" "[I", Cond.fieldLink RX2 48 "WrongWord$Gate" "guards" "I", Cond.fieldLink RX2 65 "WrongWord$Moment" "there" "I", Cond.fieldLink RX2 9 "WrongWord$Gate" "letters" "[I"] : List Cond) ++ (([Cond.instanceMethod yX2_catches, Cond.selects RX2 yX2_catches yX2_catches, Cond.methodLink RX2 85 yX2_secretIn, Cond.selects RX2 yX2_secretIn yX2_secretIn, Cond.methodLink RX2 61 yX2_secretBy, Cond.selects RX2 yX2_secretBy yX2_secretBy, Cond.methodLink RX2 89 yX2_catchesIf, Cond.selects RX2 yX2_catchesIf yX2_catchesIf, Cond.methodLink RX2 74 yX2_guardOn, Cond.selects RX2 yX2_guardOn yX2_guardOn, Cond.methodLink RX2 77 yX2_isThere, Cond.selects RX2 yX2_isThere yX2_isThere, Cond.methodLink RX2 81 yX2_wouldTake, Cond.selects RX2 yX2_wouldTake yX2_wouldTake, Cond.methodLink RX2 68 yX2_distance, Cond.selects RX2 yX2_distance yX2_distance, Cond.methodLink RX2 71 yX2_lips, Cond.selects RX2 yX2_lips yX2_lips] : List Cond) ++ (([Cond.constant RX2 103 (-1000000), Cond.methodLink RX2 96 yX2_catches] : List Cond) ++ ([] : List Cond))))
def wsX2_hourIn : List Cond := .code yX2_hourIn cX2_hourIn 4 (some .int) :: (wsX2_hourIn_o ++ (wsX20 ++ (wsX40 ++ (wsX2_catches ++ ([] : List Cond)))))
set_option maxRecDepth 100000 in
theorem itX2_hourIn_o : ∀ w ∈ wsX2_hourIn_o, w ∈ lw_tbl := List.forall_mem_append.mpr ⟨fun w h => ch_1 w (mem_r (big := tables_1_1) _ [3, 94, 54, 57, 98, 101, 105, 87, 108, 61, 84] (by decide +kernel) w h), List.forall_mem_append.mpr ⟨fun w h => ch_2 w (mem_r (big := tables_1_2) _ [206, 207, 209, 180, 182, 184, 210, 212, 214, 203, 215, 217, 219, 221, 223, 124, 224, 226] (by decide +kernel) w h), List.forall_mem_append.mpr ⟨fun w h => ch_3 w (mem_r (big := tables_1_3) _ [83, 61] (by decide +kernel) w h), fun _ h => absurd h List.not_mem_nil⟩⟩⟩
set_option maxRecDepth 100000 in
theorem itX2_hourIn : ∀ w ∈ wsX2_hourIn, w ∈ lw_tbl := List.forall_mem_cons.mpr ⟨ch_3 _ (List.mem_of_getElem? (l := tables_1_3) (i := 145) (by decide +kernel)), List.forall_mem_append.mpr ⟨itX2_hourIn_o, List.forall_mem_append.mpr ⟨itX20, List.forall_mem_append.mpr ⟨itX40, List.forall_mem_append.mpr ⟨itX2_catches, fun _ h => absurd h List.not_mem_nil⟩⟩⟩⟩⟩
set_option maxRecDepth 100000 in
theorem gdX2_hourIn_o : ∀ w ∈ wsX2_hourIn_o, goodWord w = true := gd_o (by decide +kernel)
set_option maxRecDepth 100000 in
theorem gdX2_hourIn : ∀ w ∈ wsX2_hourIn, goodWord w = true := List.forall_mem_cons.mpr ⟨by decide +kernel, List.forall_mem_append.mpr ⟨gdX2_hourIn_o, List.forall_mem_append.mpr ⟨gdX20, List.forall_mem_append.mpr ⟨gdX40, List.forall_mem_append.mpr ⟨gdX2_catches, fun _ h => absurd h List.not_mem_nil⟩⟩⟩⟩⟩
def wsX2_guardsAgainst_o : List Cond := (([Cond.fieldLink RX2 24 "WrongWord$Gate" "now" "LWrongWord$Moment;", Cond.fieldLink RX2 58 "WrongWord$Moment" "night" "I", Cond.initialized RX2, Cond.fieldLink RX2 45 "WrongWord$Gate" "words" "I", Cond.fieldLink RX2 55 "WrongWord$Moment" "start" "I", Cond.fieldLink RX2 38 "WrongWord$Gate" "step" "I", Cond.fieldLink RX2 42 "WrongWord$Gate" "shrove" "I", Cond.fieldLink RX2 15 "WrongWord$Gate" "kinds" "[I", Cond.fieldLink RX2 48 "WrongWord$Gate" "guards" "I", Cond.fieldLink RX2 65 "WrongWord$Moment" "there" "I", Cond.fieldLink RX2 9 "WrongWord$Gate" "letters" "[I"] : List Cond) ++ (([Cond.selects RX2 yX2_catches yX2_catches, Cond.methodLink RX2 85 yX2_secretIn, Cond.selects RX2 yX2_secretIn yX2_secretIn, Cond.methodLink RX2 61 yX2_secretBy, Cond.selects RX2 yX2_secretBy yX2_secretBy, Cond.methodLink RX2 89 yX2_catchesIf, Cond.selects RX2 yX2_catchesIf yX2_catchesIf, Cond.methodLink RX2 74 yX2_guardOn, Cond.instanceMethod yX2_guardOn, Cond.selects RX2 yX2_guardOn yX2_guardOn, Cond.methodLink RX2 77 yX2_isThere, Cond.selects RX2 yX2_isThere yX2_isThere, Cond.methodLink RX2 81 yX2_wouldTake, Cond.selects RX2 yX2_wouldTake yX2_wouldTake, Cond.methodLink RX2 68 yX2_distance, Cond.selects RX2 yX2_distance yX2_distance, Cond.methodLink RX2 71 yX2_lips, Cond.selects RX2 yX2_lips yX2_lips] : List Cond) ++ (([Cond.methodLink RX2 100 yX2_wordsIn, Cond.instanceMethod yX2_wordsIn, Cond.selects RX2 yX2_wordsIn yX2_wordsIn, Cond.methodLink RX2 96 yX2_catches] : List Cond) ++ ([] : List Cond))))
def wsX2_guardsAgainst : List Cond := .code yX2_guardsAgainst cX2_guardsAgainst 5 (some .int) :: (wsX2_guardsAgainst_o ++ (wsX20 ++ (wsX40 ++ (wsX2_wordsIn ++ (wsX2_guardOn ++ ([] : List Cond))))))
set_option maxRecDepth 100000 in
theorem itX2_guardsAgainst_o : ∀ w ∈ wsX2_guardsAgainst_o, w ∈ lw_tbl := List.forall_mem_append.mpr ⟨fun w h => ch_1 w (mem_r (big := tables_1_1) _ [94, 54, 3, 105, 57, 98, 101, 87, 108, 61, 84] (by decide +kernel) w h), List.forall_mem_append.mpr ⟨fun w h => ch_2 w (mem_r (big := tables_1_2) _ [207, 209, 180, 182, 184, 210, 212, 214, 202, 203, 215, 217, 219, 221, 223, 124, 224, 226] (by decide +kernel) w h), List.forall_mem_append.mpr ⟨fun w h => ch_3 w (mem_r (big := tables_1_3) _ [74, 58, 59, 61] (by decide +kernel) w h), fun _ h => absurd h List.not_mem_nil⟩⟩⟩
set_option maxRecDepth 100000 in
theorem itX2_guardsAgainst : ∀ w ∈ wsX2_guardsAgainst, w ∈ lw_tbl := List.forall_mem_cons.mpr ⟨ch_3 _ (List.mem_of_getElem? (l := tables_1_3) (i := 153) (by decide +kernel)), List.forall_mem_append.mpr ⟨itX2_guardsAgainst_o, List.forall_mem_append.mpr ⟨itX20, List.forall_mem_append.mpr ⟨itX40, List.forall_mem_append.mpr ⟨itX2_wordsIn, List.forall_mem_append.mpr ⟨itX2_guardOn, fun _ h => absurd h List.not_mem_nil⟩⟩⟩⟩⟩⟩
set_option maxRecDepth 100000 in
theorem gdX2_guardsAgainst_o : ∀ w ∈ wsX2_guardsAgainst_o, goodWord w = true := gd_o (by decide +kernel)
set_option maxRecDepth 100000 in
theorem gdX2_guardsAgainst : ∀ w ∈ wsX2_guardsAgainst, goodWord w = true := List.forall_mem_cons.mpr ⟨by decide +kernel, List.forall_mem_append.mpr ⟨gdX2_guardsAgainst_o, List.forall_mem_append.mpr ⟨gdX20, List.forall_mem_append.mpr ⟨gdX40, List.forall_mem_append.mpr ⟨gdX2_wordsIn, List.forall_mem_append.mpr ⟨gdX2_guardOn, fun _ h => absurd h List.not_mem_nil⟩⟩⟩⟩⟩⟩
def wsX2_feeOf_o : List Cond := (([Cond.fieldLink RX2 48 "WrongWord$Gate" "guards" "I", Cond.fieldLink RX2 18 "WrongWord$Gate" "fees" "[I"] : List Cond) ++ ([] : List Cond))
def wsX2_feeOf : List Cond := .code yX2_feeOf cX2_feeOf 4 (some .int) :: (wsX2_feeOf_o ++ (wsX20 ++ ([] : List Cond)))
set_option maxRecDepth 100000 in
theorem itX2_feeOf_o : ∀ w ∈ wsX2_feeOf_o, w ∈ lw_tbl := List.forall_mem_append.mpr ⟨fun w h => ch_1 w (mem_r (big := tables_1_1) _ [108, 91] (by decide +kernel) w h), fun _ h => absurd h List.not_mem_nil⟩
set_option maxRecDepth 100000 in
theorem itX2_feeOf : ∀ w ∈ wsX2_feeOf, w ∈ lw_tbl := List.forall_mem_cons.mpr ⟨ch_3 _ (List.mem_of_getElem? (l := tables_1_3) (i := 157) (by decide +kernel)), List.forall_mem_append.mpr ⟨itX2_feeOf_o, List.forall_mem_append.mpr ⟨itX20, fun _ h => absurd h List.not_mem_nil⟩⟩⟩
set_option maxRecDepth 100000 in
theorem gdX2_feeOf_o : ∀ w ∈ wsX2_feeOf_o, goodWord w = true := gd_o (by decide +kernel)
set_option maxRecDepth 100000 in
theorem gdX2_feeOf : ∀ w ∈ wsX2_feeOf, goodWord w = true := List.forall_mem_cons.mpr ⟨by decide +kernel, List.forall_mem_append.mpr ⟨gdX2_feeOf_o, List.forall_mem_append.mpr ⟨gdX20, fun _ h => absurd h List.not_mem_nil⟩⟩⟩
def wsX2_nearestTo_o : List Cond := (([Cond.fieldLink RX2 45 "WrongWord$Gate" "words" "I", Cond.initialized RX2, Cond.fieldLink RX2 9 "WrongWord$Gate" "letters" "[I"] : List Cond) ++ (([Cond.methodLink RX2 68 yX2_distance, Cond.instanceMethod yX2_distance, Cond.selects RX2 yX2_distance yX2_distance] : List Cond) ++ (([Cond.constant RX2 103 (-1000000)] : List Cond) ++ ([] : List Cond))))
def wsX2_nearestTo : List Cond := .code yX2_nearestTo cX2_nearestTo 5 (some .int) :: (wsX2_nearestTo_o ++ (wsX20 ++ (wsX2_distance ++ ([] : List Cond))))
set_option maxRecDepth 100000 in
theorem itX2_nearestTo_o : ∀ w ∈ wsX2_nearestTo_o, w ∈ lw_tbl := List.forall_mem_append.mpr ⟨fun w h => ch_1 w (mem_r (big := tables_1_1) _ [105, 3, 84] (by decide +kernel) w h), List.forall_mem_append.mpr ⟨fun w h => ch_2 w (mem_r (big := tables_1_2) _ [223, 123, 124] (by decide +kernel) w h), List.forall_mem_append.mpr ⟨fun w h => ch_3 w (mem_r (big := tables_1_3) _ [83] (by decide +kernel) w h), fun _ h => absurd h List.not_mem_nil⟩⟩⟩
set_option maxRecDepth 100000 in
theorem itX2_nearestTo : ∀ w ∈ wsX2_nearestTo, w ∈ lw_tbl := List.forall_mem_cons.mpr ⟨ch_3 _ (List.mem_of_getElem? (l := tables_1_3) (i := 165) (by decide +kernel)), List.forall_mem_append.mpr ⟨itX2_nearestTo_o, List.forall_mem_append.mpr ⟨itX20, List.forall_mem_append.mpr ⟨itX2_distance, fun _ h => absurd h List.not_mem_nil⟩⟩⟩⟩
set_option maxRecDepth 100000 in
theorem gdX2_nearestTo_o : ∀ w ∈ wsX2_nearestTo_o, goodWord w = true := gd_o (by decide +kernel)
set_option maxRecDepth 100000 in
theorem gdX2_nearestTo : ∀ w ∈ wsX2_nearestTo, goodWord w = true := List.forall_mem_cons.mpr ⟨by decide +kernel, List.forall_mem_append.mpr ⟨gdX2_nearestTo_o, List.forall_mem_append.mpr ⟨gdX20, List.forall_mem_append.mpr ⟨gdX2_distance, fun _ h => absurd h List.not_mem_nil⟩⟩⟩⟩
def wsX3_init_o : List Cond := (([Cond.methodLink RX3 3 objectInit, Cond.instanceMethod objectInit, Cond.code objectInit ⟨#[0xb1]⟩ 1 none, Cond.arrayClass .int, Cond.fieldLink RX3 9 "WrongWord$Guesses" "catching" "[I", Cond.fieldLink RX3 15 "WrongWord$Guesses" "menFor" "[I"] : List Cond) ++ ([] : List Cond))
def wsX3_init : List Cond := .code yX3_init cX3_init 1 none :: (wsX3_init_o ++ (wsX30 ++ ([] : List Cond)))
set_option maxRecDepth 100000 in
theorem itX3_init_o : ∀ w ∈ wsX3_init_o, w ∈ lw_tbl := List.forall_mem_append.mpr ⟨fun w h => ch_1 w (mem_r (big := tables_1_1) _ [183, 19, 20, 83, 184, 185] (by decide +kernel) w h), fun _ h => absurd h List.not_mem_nil⟩
set_option maxRecDepth 100000 in
theorem itX3_init : ∀ w ∈ wsX3_init, w ∈ lw_tbl := List.forall_mem_cons.mpr ⟨ch_1 _ (List.mem_of_getElem? (l := tables_1_1) (i := 182) (by decide +kernel)), List.forall_mem_append.mpr ⟨itX3_init_o, List.forall_mem_append.mpr ⟨itX30, fun _ h => absurd h List.not_mem_nil⟩⟩⟩
set_option maxRecDepth 100000 in
theorem gdX3_init_o : ∀ w ∈ wsX3_init_o, goodWord w = true := gd_o (by decide +kernel)
set_option maxRecDepth 100000 in
theorem gdX3_init : ∀ w ∈ wsX3_init, goodWord w = true := List.forall_mem_cons.mpr ⟨by decide +kernel, List.forall_mem_append.mpr ⟨gdX3_init_o, List.forall_mem_append.mpr ⟨gdX30, fun _ h => absurd h List.not_mem_nil⟩⟩⟩
def wsX3_agreesWithTries_o : List Cond := (([Cond.fieldLink RX3 32 "WrongWord$Gate" "now" "LWrongWord$Moment;", Cond.fieldLink RX3 36 "WrongWord$Moment" "tries" "I", Cond.fieldLink RX3 41 "WrongWord$Moment" "triedGuard" "[I", Cond.fieldLink RX3 44 "WrongWord$Gate" "guards" "I", Cond.fieldLink RX3 47 "WrongWord$Gate" "kinds" "[I", Cond.fieldLink RX3 50 "WrongWord$Moment" "triedWord" "[I", Cond.fieldLink RX3 53 "WrongWord$Moment" "night" "I", Cond.fieldLink RX3 60 "WrongWord$Moment" "triedTaken" "[I", Cond.initialized RX7] : List Cond) ++ (([Cond.instanceMethod yX2_wouldTake, Cond.selects RX2 yX2_wouldTake yX2_wouldTake, Cond.static yX7_bit] : List Cond) ++ (([Cond.methodLink RX3 56 yX2_wouldTake] : List Cond) ++ ([] : List Cond))))
def wsX3_agreesWithTries : List Cond := .code yX3_agreesWithTries cX3_agreesWithTries 6 (some .boolean) :: (wsX3_agreesWithTries_o ++ (wsX20 ++ (wsX40 ++ (wsX2_wouldTake ++ (wsX7_bit ++ ([] : List Cond))))))
set_option maxRecDepth 100000 in
theorem itX3_agreesWithTries_o : ∀ w ∈ wsX3_agreesWithTries_o, w ∈ lw_tbl := List.forall_mem_append.mpr ⟨fun w h => ch_1 w (mem_r (big := tables_1_1) _ [95, 64, 47, 110, 88, 44, 53, 50, 1] (by decide +kernel) w h), List.forall_mem_append.mpr ⟨fun w h => ch_2 w (mem_r (big := tables_1_2) _ [220, 221, 235] (by decide +kernel) w h), List.forall_mem_append.mpr ⟨fun w h => ch_3 w (mem_r (big := tables_1_3) _ [94] (by decide +kernel) w h), fun _ h => absurd h List.not_mem_nil⟩⟩⟩
set_option maxRecDepth 100000 in
theorem itX3_agreesWithTries : ∀ w ∈ wsX3_agreesWithTries, w ∈ lw_tbl := List.forall_mem_cons.mpr ⟨ch_3 _ (List.mem_of_getElem? (l := tables_1_3) (i := 93) (by decide +kernel)), List.forall_mem_append.mpr ⟨itX3_agreesWithTries_o, List.forall_mem_append.mpr ⟨itX20, List.forall_mem_append.mpr ⟨itX40, List.forall_mem_append.mpr ⟨itX2_wouldTake, List.forall_mem_append.mpr ⟨itX7_bit, fun _ h => absurd h List.not_mem_nil⟩⟩⟩⟩⟩⟩
set_option maxRecDepth 100000 in
theorem gdX3_agreesWithTries_o : ∀ w ∈ wsX3_agreesWithTries_o, goodWord w = true := gd_o (by decide +kernel)
set_option maxRecDepth 100000 in
theorem gdX3_agreesWithTries : ∀ w ∈ wsX3_agreesWithTries, goodWord w = true := List.forall_mem_cons.mpr ⟨by decide +kernel, List.forall_mem_append.mpr ⟨gdX3_agreesWithTries_o, List.forall_mem_append.mpr ⟨gdX20, List.forall_mem_append.mpr ⟨gdX40, List.forall_mem_append.mpr ⟨gdX2_wouldTake, List.forall_mem_append.mpr ⟨gdX7_bit, fun _ h => absurd h List.not_mem_nil⟩⟩⟩⟩⟩⟩
def wsX3_agreeing_o : List Cond := (([Cond.fieldLink RX3 18 "WrongWord$Gate" "words" "I", Cond.initialized RX3, Cond.fieldLink RX3 32 "WrongWord$Gate" "now" "LWrongWord$Moment;", Cond.fieldLink RX3 36 "WrongWord$Moment" "tries" "I", Cond.fieldLink RX3 41 "WrongWord$Moment" "triedGuard" "[I", Cond.fieldLink RX3 44 "WrongWord$Gate" "guards" "I", Cond.fieldLink RX3 47 "WrongWord$Gate" "kinds" "[I", Cond.fieldLink RX3 50 "WrongWord$Moment" "triedWord" "[I", Cond.fieldLink RX3 53 "WrongWord$Moment" "night" "I", Cond.fieldLink RX3 60 "WrongWord$Moment" "triedTaken" "[I"] : List Cond) ++ (([Cond.static yX7_bit] : List Cond) ++ (([Cond.methodLink RX3 24 yX3_agreesWithTries, Cond.static yX3_agreesWithTries, Cond.methodLink RX3 56 yX2_wouldTake] : List Cond) ++ ([] : List Cond))))
def wsX3_agreeing : List Cond := .code yX3_agreeing cX3_agreeing 3 (some .int) :: (wsX3_agreeing_o ++ (wsX20 ++ (wsX40 ++ (wsX3_agreesWithTries ++ (wsX7_bit ++ ([] : List Cond))))))
set_option maxRecDepth 100000 in
theorem itX3_agreeing_o : ∀ w ∈ wsX3_agreeing_o, w ∈ lw_tbl := List.forall_mem_append.mpr ⟨fun w h => ch_1 w (mem_r (big := tables_1_1) _ [104, 6, 95, 64, 47, 110, 88, 44, 53, 50] (by decide +kernel) w h), List.forall_mem_append.mpr ⟨fun w h => ch_2 w (mem_r (big := tables_1_2) _ [235] (by decide +kernel) w h), List.forall_mem_append.mpr ⟨fun w h => ch_3 w (mem_r (big := tables_1_3) _ [91, 92, 94] (by decide +kernel) w h), fun _ h => absurd h List.not_mem_nil⟩⟩⟩
set_option maxRecDepth 100000 in
theorem itX3_agreeing : ∀ w ∈ wsX3_agreeing, w ∈ lw_tbl := List.forall_mem_cons.mpr ⟨ch_3 _ (List.mem_of_getElem? (l := tables_1_3) (i := 90) (by decide +kernel)), List.forall_mem_append.mpr ⟨itX3_agreeing_o, List.forall_mem_append.mpr ⟨itX20, List.forall_mem_append.mpr ⟨itX40, List.forall_mem_append.mpr ⟨itX3_agreesWithTries, List.forall_mem_append.mpr ⟨itX7_bit, fun _ h => absurd h List.not_mem_nil⟩⟩⟩⟩⟩⟩
set_option maxRecDepth 100000 in
theorem gdX3_agreeing_o : ∀ w ∈ wsX3_agreeing_o, goodWord w = true := gd_o (by decide +kernel)
set_option maxRecDepth 100000 in
theorem gdX3_agreeing : ∀ w ∈ wsX3_agreeing, goodWord w = true := List.forall_mem_cons.mpr ⟨by decide +kernel, List.forall_mem_append.mpr ⟨gdX3_agreeing_o, List.forall_mem_append.mpr ⟨gdX20, List.forall_mem_append.mpr ⟨gdX40, List.forall_mem_append.mpr ⟨gdX3_agreesWithTries, List.forall_mem_append.mpr ⟨gdX7_bit, fun _ h => absurd h List.not_mem_nil⟩⟩⟩⟩⟩⟩
def wsX3_secretsCatching_o : List Cond := (([Cond.fieldLink RX3 18 "WrongWord$Gate" "words" "I", Cond.fieldLink RX3 32 "WrongWord$Gate" "now" "LWrongWord$Moment;", Cond.fieldLink RX3 53 "WrongWord$Moment" "night" "I"] : List Cond) ++ (([Cond.instanceMethod yX2_catchesIf, Cond.selects RX2 yX2_catchesIf yX2_catchesIf, Cond.static yX7_bit] : List Cond) ++ (([Cond.methodLink RX3 63 yX2_catchesIf] : List Cond) ++ ([] : List Cond))))
def wsX3_secretsCatching : List Cond := .code yX3_secretsCatching cX3_secretsCatching 5 (some .int) :: (wsX3_secretsCatching_o ++ (wsX20 ++ (wsX40 ++ (wsX2_catchesIf ++ (wsX7_bit ++ ([] : List Cond))))))
set_option maxRecDepth 100000 in
theorem itX3_secretsCatching_o : ∀ w ∈ wsX3_secretsCatching_o, w ∈ lw_tbl := List.forall_mem_append.mpr ⟨fun w h => ch_1 w (mem_r (big := tables_1_1) _ [104, 95, 53] (by decide +kernel) w h), List.forall_mem_append.mpr ⟨fun w h => ch_2 w (mem_r (big := tables_1_2) _ [211, 212, 235] (by decide +kernel) w h), List.forall_mem_append.mpr ⟨fun w h => ch_3 w (mem_r (big := tables_1_3) _ [109] (by decide +kernel) w h), fun _ h => absurd h List.not_mem_nil⟩⟩⟩
set_option maxRecDepth 100000 in
theorem itX3_secretsCatching : ∀ w ∈ wsX3_secretsCatching, w ∈ lw_tbl := List.forall_mem_cons.mpr ⟨ch_3 _ (List.mem_of_getElem? (l := tables_1_3) (i := 108) (by decide +kernel)), List.forall_mem_append.mpr ⟨itX3_secretsCatching_o, List.forall_mem_append.mpr ⟨itX20, List.forall_mem_append.mpr ⟨itX40, List.forall_mem_append.mpr ⟨itX2_catchesIf, List.forall_mem_append.mpr ⟨itX7_bit, fun _ h => absurd h List.not_mem_nil⟩⟩⟩⟩⟩⟩
set_option maxRecDepth 100000 in
theorem gdX3_secretsCatching_o : ∀ w ∈ wsX3_secretsCatching_o, goodWord w = true := gd_o (by decide +kernel)
set_option maxRecDepth 100000 in
theorem gdX3_secretsCatching : ∀ w ∈ wsX3_secretsCatching, goodWord w = true := List.forall_mem_cons.mpr ⟨by decide +kernel, List.forall_mem_append.mpr ⟨gdX3_secretsCatching_o, List.forall_mem_append.mpr ⟨gdX20, List.forall_mem_append.mpr ⟨gdX40, List.forall_mem_append.mpr ⟨gdX2_catchesIf, List.forall_mem_append.mpr ⟨gdX7_bit, fun _ h => absurd h List.not_mem_nil⟩⟩⟩⟩⟩⟩
def wsJ6_bitCount_0f7a4_o : List Cond := (([Cond.constant RJ6 265 (1431655765), Cond.constant RJ6 266 (858993459), Cond.constant RJ6 267 (252645135)] : List Cond) ++ ([] : List Cond))
def wsJ6_bitCount_0f7a4 : List Cond := .code yJ6_bitCount_0f7a4 cJ6_bitCount_0f7a4 1 (some .int) :: (wsJ6_bitCount_0f7a4_o ++ ([] : List Cond))
set_option maxRecDepth 100000 in
theorem itJ6_bitCount_0f7a4_o : ∀ w ∈ wsJ6_bitCount_0f7a4_o, w ∈ lw_tbl := List.forall_mem_append.mpr ⟨fun w h => ch_3 w (mem_r (big := tables_1_3) _ [113, 114, 115] (by decide +kernel) w h), fun _ h => absurd h List.not_mem_nil⟩
set_option maxRecDepth 100000 in
theorem itJ6_bitCount_0f7a4 : ∀ w ∈ wsJ6_bitCount_0f7a4, w ∈ lw_tbl := List.forall_mem_cons.mpr ⟨ch_3 _ (List.mem_of_getElem? (l := tables_1_3) (i := 112) (by decide +kernel)), List.forall_mem_append.mpr ⟨itJ6_bitCount_0f7a4_o, fun _ h => absurd h List.not_mem_nil⟩⟩
set_option maxRecDepth 100000 in
theorem gdJ6_bitCount_0f7a4_o : ∀ w ∈ wsJ6_bitCount_0f7a4_o, goodWord w = true := gd_o (by decide +kernel)
set_option maxRecDepth 100000 in
theorem gdJ6_bitCount_0f7a4 : ∀ w ∈ wsJ6_bitCount_0f7a4, goodWord w = true := List.forall_mem_cons.mpr ⟨by decide +kernel, List.forall_mem_append.mpr ⟨gdJ6_bitCount_0f7a4_o, fun _ h => absurd h List.not_mem_nil⟩⟩
def wsX3_leftAtWorst_o : List Cond := (([Cond.initialized "java/lang/Math", Cond.initialized RX3, Cond.fieldLink RX3 18 "WrongWord$Gate" "words" "I", Cond.fieldLink RX3 32 "WrongWord$Gate" "now" "LWrongWord$Moment;", Cond.fieldLink RX3 53 "WrongWord$Moment" "night" "I", Cond.initialized RJ6] : List Cond) ++ (([Cond.methodLink RX3 76 Lib.Math.max.name, Cond.static Lib.Math.max.name, Cond.code Lib.Math.max.name Lib.Math.max.code 2 (some .int), Cond.methodLink RX3 66 yX3_secretsCatching, Cond.static yX3_secretsCatching, Cond.methodLink RX3 63 yX2_catchesIf, Cond.methodLink RX3 70 yJ6_bitCount_0f7a4, Cond.static yJ6_bitCount_0f7a4] : List Cond) ++ ([] : List Cond)))
def wsX3_leftAtWorst : List Cond := .code yX3_leftAtWorst cX3_leftAtWorst 4 (some .int) :: (wsX3_leftAtWorst_o ++ (wsX20 ++ (wsX40 ++ (wsX3_secretsCatching ++ (wsJ6_bitCount_0f7a4 ++ ([] : List Cond))))))
set_option maxRecDepth 100000 in
theorem itX3_leftAtWorst_o : ∀ w ∈ wsX3_leftAtWorst_o, w ∈ lw_tbl := List.forall_mem_append.mpr ⟨fun w h => ch_1 w (mem_r (big := tables_1_1) _ [11, 6, 104, 95, 53, 12] (by decide +kernel) w h), List.forall_mem_append.mpr ⟨fun w h => ch_3 w (mem_r (big := tables_1_3) _ [116, 117, 118, 106, 107, 109, 110, 111] (by decide +kernel) w h), fun _ h => absurd h List.not_mem_nil⟩⟩
set_option maxRecDepth 100000 in
theorem itX3_leftAtWorst : ∀ w ∈ wsX3_leftAtWorst, w ∈ lw_tbl := List.forall_mem_cons.mpr ⟨ch_3 _ (List.mem_of_getElem? (l := tables_1_3) (i := 105) (by decide +kernel)), List.forall_mem_append.mpr ⟨itX3_leftAtWorst_o, List.forall_mem_append.mpr ⟨itX20, List.forall_mem_append.mpr ⟨itX40, List.forall_mem_append.mpr ⟨itX3_secretsCatching, List.forall_mem_append.mpr ⟨itJ6_bitCount_0f7a4, fun _ h => absurd h List.not_mem_nil⟩⟩⟩⟩⟩⟩
set_option maxRecDepth 100000 in
theorem gdX3_leftAtWorst_o : ∀ w ∈ wsX3_leftAtWorst_o, goodWord w = true := gd_o (by decide +kernel)
set_option maxRecDepth 100000 in
theorem gdX3_leftAtWorst : ∀ w ∈ wsX3_leftAtWorst, goodWord w = true := List.forall_mem_cons.mpr ⟨by decide +kernel, List.forall_mem_append.mpr ⟨gdX3_leftAtWorst_o, List.forall_mem_append.mpr ⟨gdX20, List.forall_mem_append.mpr ⟨gdX40, List.forall_mem_append.mpr ⟨gdX3_secretsCatching, List.forall_mem_append.mpr ⟨gdJ6_bitCount_0f7a4, fun _ h => absurd h List.not_mem_nil⟩⟩⟩⟩⟩⟩
def wsX3_bestTry_o : List Cond := (([Cond.fieldLink RX3 18 "WrongWord$Gate" "words" "I", Cond.initialized RX3, Cond.fieldLink RX3 32 "WrongWord$Gate" "now" "LWrongWord$Moment;", Cond.fieldLink RX3 53 "WrongWord$Moment" "night" "I"] : List Cond) ++ (([Cond.methodLink RX3 82 yX3_leftAtWorst, Cond.static yX3_leftAtWorst, Cond.methodLink RX3 76 Lib.Math.max.name, Cond.methodLink RX3 66 yX3_secretsCatching, Cond.methodLink RX3 63 yX2_catchesIf, Cond.methodLink RX3 70 yJ6_bitCount_0f7a4] : List Cond) ++ ([] : List Cond)))
def wsX3_bestTry : List Cond := .code yX3_bestTry cX3_bestTry 6 (some .int) :: (wsX3_bestTry_o ++ (wsX20 ++ (wsX40 ++ (wsX3_leftAtWorst ++ ([] : List Cond)))))
set_option maxRecDepth 100000 in
theorem itX3_bestTry_o : ∀ w ∈ wsX3_bestTry_o, w ∈ lw_tbl := List.forall_mem_append.mpr ⟨fun w h => ch_1 w (mem_r (big := tables_1_1) _ [104, 6, 95, 53] (by decide +kernel) w h), List.forall_mem_append.mpr ⟨fun w h => ch_3 w (mem_r (big := tables_1_3) _ [103, 104, 116, 106, 109, 110] (by decide +kernel) w h), fun _ h => absurd h List.not_mem_nil⟩⟩
set_option maxRecDepth 100000 in
theorem itX3_bestTry : ∀ w ∈ wsX3_bestTry, w ∈ lw_tbl := List.forall_mem_cons.mpr ⟨ch_3 _ (List.mem_of_getElem? (l := tables_1_3) (i := 102) (by decide +kernel)), List.forall_mem_append.mpr ⟨itX3_bestTry_o, List.forall_mem_append.mpr ⟨itX20, List.forall_mem_append.mpr ⟨itX40, List.forall_mem_append.mpr ⟨itX3_leftAtWorst, fun _ h => absurd h List.not_mem_nil⟩⟩⟩⟩⟩
set_option maxRecDepth 100000 in
theorem gdX3_bestTry_o : ∀ w ∈ wsX3_bestTry_o, goodWord w = true := gd_o (by decide +kernel)
set_option maxRecDepth 100000 in
theorem gdX3_bestTry : ∀ w ∈ wsX3_bestTry, goodWord w = true := List.forall_mem_cons.mpr ⟨by decide +kernel, List.forall_mem_append.mpr ⟨gdX3_bestTry_o, List.forall_mem_append.mpr ⟨gdX20, List.forall_mem_append.mpr ⟨gdX40, List.forall_mem_append.mpr ⟨gdX3_leftAtWorst, fun _ h => absurd h List.not_mem_nil⟩⟩⟩⟩⟩
def wsX3_menToSplit_o : List Cond := (([Cond.fieldLink RX3 9 "WrongWord$Guesses" "catching" "[I", Cond.fieldLink RX3 15 "WrongWord$Guesses" "menFor" "[I", Cond.initialized "java/lang/Math"] : List Cond) ++ (([Cond.static Lib.Math.min.name, Cond.code Lib.Math.min.name Lib.Math.min.code 2 (some .int)] : List Cond) ++ (([Cond.methodLink RX3 76 Lib.Math.max.name, Cond.static Lib.Math.max.name, Cond.code Lib.Math.max.name Lib.Math.max.code 2 (some .int), Cond.methodLink RX3 89 Lib.Math.min.name] : List Cond) ++ ([] : List Cond))))
def wsX3_menToSplit : List Cond := .code yX3_menToSplit cX3_menToSplit 6 (some .int) :: (wsX3_menToSplit_o ++ (wsX30 ++ ([] : List Cond)))
set_option maxRecDepth 100000 in
theorem itX3_menToSplit_o : ∀ w ∈ wsX3_menToSplit_o, w ∈ lw_tbl := List.forall_mem_append.mpr ⟨fun w h => ch_1 w (mem_r (big := tables_1_1) _ [184, 185, 11] (by decide +kernel) w h), List.forall_mem_append.mpr ⟨fun w h => ch_2 w (mem_r (big := tables_1_2) _ [172, 173] (by decide +kernel) w h), List.forall_mem_append.mpr ⟨fun w h => ch_3 w (mem_r (big := tables_1_3) _ [116, 117, 118, 132] (by decide +kernel) w h), fun _ h => absurd h List.not_mem_nil⟩⟩⟩
set_option maxRecDepth 100000 in
theorem itX3_menToSplit : ∀ w ∈ wsX3_menToSplit, w ∈ lw_tbl := List.forall_mem_cons.mpr ⟨ch_3 _ (List.mem_of_getElem? (l := tables_1_3) (i := 131) (by decide +kernel)), List.forall_mem_append.mpr ⟨itX3_menToSplit_o, List.forall_mem_append.mpr ⟨itX30, fun _ h => absurd h List.not_mem_nil⟩⟩⟩
set_option maxRecDepth 100000 in
theorem gdX3_menToSplit_o : ∀ w ∈ wsX3_menToSplit_o, goodWord w = true := gd_o (by decide +kernel)
set_option maxRecDepth 100000 in
theorem gdX3_menToSplit : ∀ w ∈ wsX3_menToSplit, goodWord w = true := List.forall_mem_cons.mpr ⟨by decide +kernel, List.forall_mem_append.mpr ⟨gdX3_menToSplit_o, List.forall_mem_append.mpr ⟨gdX30, fun _ h => absurd h List.not_mem_nil⟩⟩⟩
def wsX3_fewestMen_o : List Cond := (([Cond.selects RX3 yX3_menToSplit yX3_menToSplit] : List Cond) ++ (([Cond.fieldLink RX3 18 "WrongWord$Gate" "words" "I", Cond.fieldLink RX3 9 "WrongWord$Guesses" "catching" "[I", Cond.fieldLink RX3 15 "WrongWord$Guesses" "menFor" "[I", Cond.initialized RX3, Cond.fieldLink RX3 32 "WrongWord$Gate" "now" "LWrongWord$Moment;", Cond.fieldLink RX3 53 "WrongWord$Moment" "night" "I", Cond.initialized RJ6] : List Cond) ++ (([Cond.constant RX3 88 (-1000000), Cond.methodLink RX3 66 yX3_secretsCatching, Cond.static yX3_secretsCatching, Cond.methodLink RX3 63 yX2_catchesIf, Cond.methodLink RX3 70 yJ6_bitCount_0f7a4, Cond.static yJ6_bitCount_0f7a4, Cond.methodLink RX3 85 yX3_menToSplit, Cond.instanceMethod yX3_menToSplit, Cond.methodLink RX3 76 Lib.Math.max.name, Cond.methodLink RX3 89 Lib.Math.min.name] : List Cond) ++ ([] : List Cond))))
def wsX3_fewestMen : List Cond := .code yX3_fewestMen cX3_fewestMen 5 (some .int) :: (wsX3_fewestMen_o ++ (wsX20 ++ (wsX30 ++ (wsX40 ++ (wsX3_secretsCatching ++ (wsJ6_bitCount_0f7a4 ++ (wsX3_menToSplit ++ ([] : List Cond))))))))
set_option maxRecDepth 100000 in
theorem itX3_fewestMen_o : ∀ w ∈ wsX3_fewestMen_o, w ∈ lw_tbl := List.forall_mem_append.mpr ⟨fun w h => ch_0 w (mem_r (big := k2_sels lw_privs) _ [17] (by decide +kernel) w h), List.forall_mem_append.mpr ⟨fun w h => ch_1 w (mem_r (big := tables_1_1) _ [104, 184, 185, 6, 95, 53, 12] (by decide +kernel) w h), List.forall_mem_append.mpr ⟨fun w h => ch_3 w (mem_r (big := tables_1_3) _ [133, 106, 107, 109, 110, 111, 128, 130, 116, 132] (by decide +kernel) w h), fun _ h => absurd h List.not_mem_nil⟩⟩⟩
set_option maxRecDepth 100000 in
theorem itX3_fewestMen : ∀ w ∈ wsX3_fewestMen, w ∈ lw_tbl := List.forall_mem_cons.mpr ⟨ch_3 _ (List.mem_of_getElem? (l := tables_1_3) (i := 127) (by decide +kernel)), List.forall_mem_append.mpr ⟨itX3_fewestMen_o, List.forall_mem_append.mpr ⟨itX20, List.forall_mem_append.mpr ⟨itX30, List.forall_mem_append.mpr ⟨itX40, List.forall_mem_append.mpr ⟨itX3_secretsCatching, List.forall_mem_append.mpr ⟨itJ6_bitCount_0f7a4, List.forall_mem_append.mpr ⟨itX3_menToSplit, fun _ h => absurd h List.not_mem_nil⟩⟩⟩⟩⟩⟩⟩⟩
set_option maxRecDepth 100000 in
theorem gdX3_fewestMen_o : ∀ w ∈ wsX3_fewestMen_o, goodWord w = true := gd_o (by decide +kernel)
set_option maxRecDepth 100000 in
theorem gdX3_fewestMen : ∀ w ∈ wsX3_fewestMen, goodWord w = true := List.forall_mem_cons.mpr ⟨by decide +kernel, List.forall_mem_append.mpr ⟨gdX3_fewestMen_o, List.forall_mem_append.mpr ⟨gdX20, List.forall_mem_append.mpr ⟨gdX30, List.forall_mem_append.mpr ⟨gdX40, List.forall_mem_append.mpr ⟨gdX3_secretsCatching, List.forall_mem_append.mpr ⟨gdJ6_bitCount_0f7a4, List.forall_mem_append.mpr ⟨gdX3_menToSplit, fun _ h => absurd h List.not_mem_nil⟩⟩⟩⟩⟩⟩⟩⟩
def wsX4_begin_o : List Cond := (([Cond.fieldLink RX4 24 "WrongWord$Moment" "night" "I", Cond.fieldLink RX4 28 "WrongWord$Moment" "there" "I", Cond.fieldLink RX4 31 "WrongWord$Moment" "tries" "I", Cond.fieldLink RX4 9 "WrongWord$Moment" "took" "[I"] : List Cond) ++ ([] : List Cond))
def wsX4_begin : List Cond := .code yX4_begin cX4_begin 3 none :: (wsX4_begin_o ++ (wsX40 ++ ([] : List Cond)))
set_option maxRecDepth 100000 in
theorem itX4_begin_o : ∀ w ∈ wsX4_begin_o, w ∈ lw_tbl := List.forall_mem_append.mpr ⟨fun w h => ch_1 w (mem_r (big := tables_1_1) _ [52, 60, 63, 41] (by decide +kernel) w h), fun _ h => absurd h List.not_mem_nil⟩
set_option maxRecDepth 100000 in
theorem itX4_begin : ∀ w ∈ wsX4_begin, w ∈ lw_tbl := List.forall_mem_cons.mpr ⟨ch_2 _ (List.mem_of_getElem? (l := tables_1_2) (i := 137) (by decide +kernel)), List.forall_mem_append.mpr ⟨itX4_begin_o, List.forall_mem_append.mpr ⟨itX40, fun _ h => absurd h List.not_mem_nil⟩⟩⟩
set_option maxRecDepth 100000 in
theorem gdX4_begin_o : ∀ w ∈ wsX4_begin_o, goodWord w = true := gd_o (by decide +kernel)
set_option maxRecDepth 100000 in
theorem gdX4_begin : ∀ w ∈ wsX4_begin, goodWord w = true := List.forall_mem_cons.mpr ⟨by decide +kernel, List.forall_mem_append.mpr ⟨gdX4_begin_o, List.forall_mem_append.mpr ⟨gdX40, fun _ h => absurd h List.not_mem_nil⟩⟩⟩
def wsX4_goBy_o : List Cond := (([Cond.fieldLink RX4 24 "WrongWord$Moment" "night" "I", Cond.fieldLink RX4 31 "WrongWord$Moment" "tries" "I"] : List Cond) ++ ([] : List Cond))
def wsX4_goBy : List Cond := .code yX4_goBy cX4_goBy 1 none :: (wsX4_goBy_o ++ (wsX40 ++ ([] : List Cond)))
set_option maxRecDepth 100000 in
theorem itX4_goBy_o : ∀ w ∈ wsX4_goBy_o, w ∈ lw_tbl := List.forall_mem_append.mpr ⟨fun w h => ch_1 w (mem_r (big := tables_1_1) _ [52, 63] (by decide +kernel) w h), fun _ h => absurd h List.not_mem_nil⟩
set_option maxRecDepth 100000 in
theorem itX4_goBy : ∀ w ∈ wsX4_goBy, w ∈ lw_tbl := List.forall_mem_cons.mpr ⟨ch_2 _ (List.mem_of_getElem? (l := tables_1_2) (i := 177) (by decide +kernel)), List.forall_mem_append.mpr ⟨itX4_goBy_o, List.forall_mem_append.mpr ⟨itX40, fun _ h => absurd h List.not_mem_nil⟩⟩⟩
set_option maxRecDepth 100000 in
theorem gdX4_goBy_o : ∀ w ∈ wsX4_goBy_o, goodWord w = true := gd_o (by decide +kernel)
set_option maxRecDepth 100000 in
theorem gdX4_goBy : ∀ w ∈ wsX4_goBy, goodWord w = true := List.forall_mem_cons.mpr ⟨by decide +kernel, List.forall_mem_append.mpr ⟨gdX4_goBy_o, List.forall_mem_append.mpr ⟨gdX40, fun _ h => absurd h List.not_mem_nil⟩⟩⟩
def wsX4_addTry_o : List Cond := (([Cond.fieldLink RX4 31 "WrongWord$Moment" "tries" "I", Cond.fieldLink RX4 15 "WrongWord$Moment" "triedWord" "[I", Cond.fieldLink RX4 18 "WrongWord$Moment" "triedGuard" "[I", Cond.fieldLink RX4 21 "WrongWord$Moment" "triedTaken" "[I", Cond.fieldLink RX4 9 "WrongWord$Moment" "took" "[I", Cond.initialized RX7] : List Cond) ++ (([Cond.static yX7_bit] : List Cond) ++ ([] : List Cond)))
def wsX4_addTry : List Cond := .code yX4_addTry cX4_addTry 4 none :: (wsX4_addTry_o ++ (wsX40 ++ (wsX7_bit ++ ([] : List Cond))))
set_option maxRecDepth 100000 in
theorem itX4_addTry_o : ∀ w ∈ wsX4_addTry_o, w ∈ lw_tbl := List.forall_mem_append.mpr ⟨fun w h => ch_1 w (mem_r (big := tables_1_1) _ [63, 43, 46, 49, 41, 1] (by decide +kernel) w h), List.forall_mem_append.mpr ⟨fun w h => ch_2 w (mem_r (big := tables_1_2) _ [235] (by decide +kernel) w h), fun _ h => absurd h List.not_mem_nil⟩⟩
set_option maxRecDepth 100000 in
theorem itX4_addTry : ∀ w ∈ wsX4_addTry, w ∈ lw_tbl := List.forall_mem_cons.mpr ⟨ch_2 _ (List.mem_of_getElem? (l := tables_1_2) (i := 233) (by decide +kernel)), List.forall_mem_append.mpr ⟨itX4_addTry_o, List.forall_mem_append.mpr ⟨itX40, List.forall_mem_append.mpr ⟨itX7_bit, fun _ h => absurd h List.not_mem_nil⟩⟩⟩⟩
set_option maxRecDepth 100000 in
theorem gdX4_addTry_o : ∀ w ∈ wsX4_addTry_o, goodWord w = true := gd_o (by decide +kernel)
set_option maxRecDepth 100000 in
theorem gdX4_addTry : ∀ w ∈ wsX4_addTry, goodWord w = true := List.forall_mem_cons.mpr ⟨by decide +kernel, List.forall_mem_append.mpr ⟨gdX4_addTry_o, List.forall_mem_append.mpr ⟨gdX40, List.forall_mem_append.mpr ⟨gdX7_bit, fun _ h => absurd h List.not_mem_nil⟩⟩⟩⟩
def wsX4_tookInAll_o : List Cond := (([Cond.fieldLink RX4 9 "WrongWord$Moment" "took" "[I"] : List Cond) ++ ([] : List Cond))
def wsX4_tookInAll : List Cond := .code yX4_tookInAll cX4_tookInAll 3 (some .int) :: (wsX4_tookInAll_o ++ (wsX40 ++ ([] : List Cond)))
set_option maxRecDepth 100000 in
theorem itX4_tookInAll_o : ∀ w ∈ wsX4_tookInAll_o, w ∈ lw_tbl := List.forall_mem_append.mpr ⟨fun w h => ch_1 w (mem_r (big := tables_1_1) _ [41] (by decide +kernel) w h), fun _ h => absurd h List.not_mem_nil⟩
set_option maxRecDepth 100000 in
theorem itX4_tookInAll : ∀ w ∈ wsX4_tookInAll, w ∈ lw_tbl := List.forall_mem_cons.mpr ⟨ch_4 _ (List.mem_of_getElem? (l := tables_1_4) (i := 39) (by decide +kernel)), List.forall_mem_append.mpr ⟨itX4_tookInAll_o, List.forall_mem_append.mpr ⟨itX40, fun _ h => absurd h List.not_mem_nil⟩⟩⟩
set_option maxRecDepth 100000 in
theorem gdX4_tookInAll_o : ∀ w ∈ wsX4_tookInAll_o, goodWord w = true := gd_o (by decide +kernel)
set_option maxRecDepth 100000 in
theorem gdX4_tookInAll : ∀ w ∈ wsX4_tookInAll, goodWord w = true := List.forall_mem_cons.mpr ⟨by decide +kernel, List.forall_mem_append.mpr ⟨gdX4_tookInAll_o, List.forall_mem_append.mpr ⟨gdX40, fun _ h => absurd h List.not_mem_nil⟩⟩⟩
def wsX5_init_o : List Cond := (([Cond.methodLink RX5 3 objectInit, Cond.instanceMethod objectInit, Cond.code objectInit ⟨#[0xb1]⟩ 1 none, Cond.arrayClass .int, Cond.fieldLink RX5 9 "WrongWord$Row" "items" "[I", Cond.fieldLink RX5 15 "WrongWord$Row" "lane" "I"] : List Cond) ++ ([] : List Cond))
def wsX5_init : List Cond := .code yX5_init cX5_init 1 none :: (wsX5_init_o ++ (wsX50 ++ ([] : List Cond)))
set_option maxRecDepth 100000 in
theorem itX5_init_o : ∀ w ∈ wsX5_init_o, w ∈ lw_tbl := List.forall_mem_append.mpr ⟨fun w h => ch_1 w (mem_r (big := tables_1_1) _ [222, 19, 20, 83, 223, 225] (by decide +kernel) w h), fun _ h => absurd h List.not_mem_nil⟩
set_option maxRecDepth 100000 in
theorem itX5_init : ∀ w ∈ wsX5_init, w ∈ lw_tbl := List.forall_mem_cons.mpr ⟨ch_1 _ (List.mem_of_getElem? (l := tables_1_1) (i := 221) (by decide +kernel)), List.forall_mem_append.mpr ⟨itX5_init_o, List.forall_mem_append.mpr ⟨itX50, fun _ h => absurd h List.not_mem_nil⟩⟩⟩
set_option maxRecDepth 100000 in
theorem gdX5_init_o : ∀ w ∈ wsX5_init_o, goodWord w = true := gd_o (by decide +kernel)
set_option maxRecDepth 100000 in
theorem gdX5_init : ∀ w ∈ wsX5_init, goodWord w = true := List.forall_mem_cons.mpr ⟨by decide +kernel, List.forall_mem_append.mpr ⟨gdX5_init_o, List.forall_mem_append.mpr ⟨gdX50, fun _ h => absurd h List.not_mem_nil⟩⟩⟩
def wsX5_make_o : List Cond := (([Cond.fieldLink RX5 15 "WrongWord$Row" "lane" "I", Cond.fieldLink RX5 19 "WrongWord$Row" "size" "I", Cond.fieldLink RX5 9 "WrongWord$Row" "items" "[I"] : List Cond) ++ ([] : List Cond))
def wsX5_make : List Cond := .code yX5_make cX5_make 4 none :: (wsX5_make_o ++ (wsX50 ++ ([] : List Cond)))
set_option maxRecDepth 100000 in
theorem itX5_make_o : ∀ w ∈ wsX5_make_o, w ∈ lw_tbl := List.forall_mem_append.mpr ⟨fun w h => ch_1 w (mem_r (big := tables_1_1) _ [225, 227, 223] (by decide +kernel) w h), fun _ h => absurd h List.not_mem_nil⟩
set_option maxRecDepth 100000 in
theorem itX5_make : ∀ w ∈ wsX5_make, w ∈ lw_tbl := List.forall_mem_cons.mpr ⟨ch_2 _ (List.mem_of_getElem? (l := tables_1_2) (i := 41) (by decide +kernel)), List.forall_mem_append.mpr ⟨itX5_make_o, List.forall_mem_append.mpr ⟨itX50, fun _ h => absurd h List.not_mem_nil⟩⟩⟩
set_option maxRecDepth 100000 in
theorem gdX5_make_o : ∀ w ∈ wsX5_make_o, goodWord w = true := gd_o (by decide +kernel)
set_option maxRecDepth 100000 in
theorem gdX5_make : ∀ w ∈ wsX5_make, goodWord w = true := List.forall_mem_cons.mpr ⟨by decide +kernel, List.forall_mem_append.mpr ⟨gdX5_make_o, List.forall_mem_append.mpr ⟨gdX50, fun _ h => absurd h List.not_mem_nil⟩⟩⟩
def wsX5_reaches_o : List Cond := (([Cond.fieldLink RX5 19 "WrongWord$Row" "size" "I"] : List Cond) ++ ([] : List Cond))
def wsX5_reaches : List Cond := .code yX5_reaches cX5_reaches 3 (some .boolean) :: (wsX5_reaches_o ++ (wsX50 ++ ([] : List Cond)))
set_option maxRecDepth 100000 in
theorem itX5_reaches_o : ∀ w ∈ wsX5_reaches_o, w ∈ lw_tbl := List.forall_mem_append.mpr ⟨fun w h => ch_1 w (mem_r (big := tables_1_1) _ [227] (by decide +kernel) w h), fun _ h => absurd h List.not_mem_nil⟩
set_option maxRecDepth 100000 in
theorem itX5_reaches : ∀ w ∈ wsX5_reaches, w ∈ lw_tbl := List.forall_mem_cons.mpr ⟨ch_2 _ (List.mem_of_getElem? (l := tables_1_2) (i := 57) (by decide +kernel)), List.forall_mem_append.mpr ⟨itX5_reaches_o, List.forall_mem_append.mpr ⟨itX50, fun _ h => absurd h List.not_mem_nil⟩⟩⟩
set_option maxRecDepth 100000 in
theorem gdX5_reaches_o : ∀ w ∈ wsX5_reaches_o, goodWord w = true := gd_o (by decide +kernel)
set_option maxRecDepth 100000 in
theorem gdX5_reaches : ∀ w ∈ wsX5_reaches, goodWord w = true := List.forall_mem_cons.mpr ⟨by decide +kernel, List.forall_mem_append.mpr ⟨gdX5_reaches_o, List.forall_mem_append.mpr ⟨gdX50, fun _ h => absurd h List.not_mem_nil⟩⟩⟩
def wsX5_findingOf_o : List Cond := (([Cond.fieldLink RX5 15 "WrongWord$Row" "lane" "I", Cond.initialized RX5, Cond.fieldLink RX5 19 "WrongWord$Row" "size" "I"] : List Cond) ++ (([Cond.methodLink RX5 22 yX5_reaches, Cond.instanceMethod yX5_reaches, Cond.selects RX5 yX5_reaches yX5_reaches] : List Cond) ++ ([] : List Cond)))
def wsX5_findingOf : List Cond := .code yX5_findingOf cX5_findingOf 3 (some .int) :: (wsX5_findingOf_o ++ (wsX50 ++ (wsX5_reaches ++ ([] : List Cond))))
set_option maxRecDepth 100000 in
theorem itX5_findingOf_o : ∀ w ∈ wsX5_findingOf_o, w ∈ lw_tbl := List.forall_mem_append.mpr ⟨fun w h => ch_1 w (mem_r (big := tables_1_1) _ [225, 8, 227] (by decide +kernel) w h), List.forall_mem_append.mpr ⟨fun w h => ch_2 w (mem_r (big := tables_1_2) _ [54, 55, 56] (by decide +kernel) w h), fun _ h => absurd h List.not_mem_nil⟩⟩
set_option maxRecDepth 100000 in
theorem itX5_findingOf : ∀ w ∈ wsX5_findingOf, w ∈ lw_tbl := List.forall_mem_cons.mpr ⟨ch_2 _ (List.mem_of_getElem? (l := tables_1_2) (i := 53) (by decide +kernel)), List.forall_mem_append.mpr ⟨itX5_findingOf_o, List.forall_mem_append.mpr ⟨itX50, List.forall_mem_append.mpr ⟨itX5_reaches, fun _ h => absurd h List.not_mem_nil⟩⟩⟩⟩
set_option maxRecDepth 100000 in
theorem gdX5_findingOf_o : ∀ w ∈ wsX5_findingOf_o, goodWord w = true := gd_o (by decide +kernel)
set_option maxRecDepth 100000 in
theorem gdX5_findingOf : ∀ w ∈ wsX5_findingOf, goodWord w = true := List.forall_mem_cons.mpr ⟨by decide +kernel, List.forall_mem_append.mpr ⟨gdX5_findingOf_o, List.forall_mem_append.mpr ⟨gdX50, List.forall_mem_append.mpr ⟨gdX5_reaches, fun _ h => absurd h List.not_mem_nil⟩⟩⟩⟩
def wsX5_put_o : List Cond := (([Cond.fieldLink RX5 9 "WrongWord$Row" "items" "[I", Cond.fieldLink RX5 15 "WrongWord$Row" "lane" "I"] : List Cond) ++ ([] : List Cond))
def wsX5_put : List Cond := .code yX5_put cX5_put 3 (some .int) :: (wsX5_put_o ++ (wsX50 ++ ([] : List Cond)))
set_option maxRecDepth 100000 in
theorem itX5_put_o : ∀ w ∈ wsX5_put_o, w ∈ lw_tbl := List.forall_mem_append.mpr ⟨fun w h => ch_1 w (mem_r (big := tables_1_1) _ [223, 225] (by decide +kernel) w h), fun _ h => absurd h List.not_mem_nil⟩
set_option maxRecDepth 100000 in
theorem itX5_put : ∀ w ∈ wsX5_put, w ∈ lw_tbl := List.forall_mem_cons.mpr ⟨ch_2 _ (List.mem_of_getElem? (l := tables_1_2) (i := 61) (by decide +kernel)), List.forall_mem_append.mpr ⟨itX5_put_o, List.forall_mem_append.mpr ⟨itX50, fun _ h => absurd h List.not_mem_nil⟩⟩⟩
set_option maxRecDepth 100000 in
theorem gdX5_put_o : ∀ w ∈ wsX5_put_o, goodWord w = true := gd_o (by decide +kernel)
set_option maxRecDepth 100000 in
theorem gdX5_put : ∀ w ∈ wsX5_put, goodWord w = true := List.forall_mem_cons.mpr ⟨by decide +kernel, List.forall_mem_append.mpr ⟨gdX5_put_o, List.forall_mem_append.mpr ⟨gdX50, fun _ h => absurd h List.not_mem_nil⟩⟩⟩
def wsX6_init_o : List Cond := (([Cond.methodLink RX6 3 objectInit, Cond.fieldLink RX6 9 "WrongWord$Tape" "bytes" "[I", Cond.classLink RX6 15 RX2, Cond.instantiable RX2 8, Cond.initialized RX2, Cond.fieldLink RX6 18 "WrongWord$Tape" "draft" "LWrongWord$Gate;", Cond.instanceMethod yX2_init] : List Cond) ++ ([] : List Cond))
def wsX6_init : List Cond := .code yX6_init cX6_init 1 none :: (wsX6_init_o ++ (wsX60 ++ (wsX20 ++ (wsX40 ++ (wsX2_init ++ ([] : List Cond))))))
set_option maxRecDepth 100000 in
theorem itX6_init_o : ∀ w ∈ wsX6_init_o, w ∈ lw_tbl := List.forall_mem_append.mpr ⟨fun w h => ch_1 w (mem_r (big := tables_1_1) _ [28, 129, 29, 30, 3, 130, 32] (by decide +kernel) w h), fun _ h => absurd h List.not_mem_nil⟩
set_option maxRecDepth 100000 in
theorem itX6_init : ∀ w ∈ wsX6_init, w ∈ lw_tbl := List.forall_mem_cons.mpr ⟨ch_1 _ (List.mem_of_getElem? (l := tables_1_1) (i := 27) (by decide +kernel)), List.forall_mem_append.mpr ⟨itX6_init_o, List.forall_mem_append.mpr ⟨itX60, List.forall_mem_append.mpr ⟨itX20, List.forall_mem_append.mpr ⟨itX40, List.forall_mem_append.mpr ⟨itX2_init, fun _ h => absurd h List.not_mem_nil⟩⟩⟩⟩⟩⟩
set_option maxRecDepth 100000 in
theorem gdX6_init_o : ∀ w ∈ wsX6_init_o, goodWord w = true := gd_o (by decide +kernel)
set_option maxRecDepth 100000 in
theorem gdX6_init : ∀ w ∈ wsX6_init, goodWord w = true := List.forall_mem_cons.mpr ⟨by decide +kernel, List.forall_mem_append.mpr ⟨gdX6_init_o, List.forall_mem_append.mpr ⟨gdX60, List.forall_mem_append.mpr ⟨gdX20, List.forall_mem_append.mpr ⟨gdX40, List.forall_mem_append.mpr ⟨gdX2_init, fun _ h => absurd h List.not_mem_nil⟩⟩⟩⟩⟩⟩
def wsX6_append_o : List Cond := (([Cond.fieldLink RX6 22 "WrongWord$Tape" "length" "I", Cond.fieldLink RX6 9 "WrongWord$Tape" "bytes" "[I"] : List Cond) ++ ([] : List Cond))
def wsX6_append : List Cond := .code yX6_append cX6_append 2 (some .boolean) :: (wsX6_append_o ++ (wsX60 ++ ([] : List Cond)))
set_option maxRecDepth 100000 in
theorem itX6_append_o : ∀ w ∈ wsX6_append_o, w ∈ lw_tbl := List.forall_mem_append.mpr ⟨fun w h => ch_1 w (mem_r (big := tables_1_1) _ [132, 129] (by decide +kernel) w h), fun _ h => absurd h List.not_mem_nil⟩
set_option maxRecDepth 100000 in
theorem itX6_append : ∀ w ∈ wsX6_append, w ∈ lw_tbl := List.forall_mem_cons.mpr ⟨ch_2 _ (List.mem_of_getElem? (l := tables_1_2) (i := 81) (by decide +kernel)), List.forall_mem_append.mpr ⟨itX6_append_o, List.forall_mem_append.mpr ⟨itX60, fun _ h => absurd h List.not_mem_nil⟩⟩⟩
set_option maxRecDepth 100000 in
theorem gdX6_append_o : ∀ w ∈ wsX6_append_o, goodWord w = true := gd_o (by decide +kernel)
set_option maxRecDepth 100000 in
theorem gdX6_append : ∀ w ∈ wsX6_append, goodWord w = true := List.forall_mem_cons.mpr ⟨by decide +kernel, List.forall_mem_append.mpr ⟨gdX6_append_o, List.forall_mem_append.mpr ⟨gdX60, fun _ h => absurd h List.not_mem_nil⟩⟩⟩
def wsX6_here_o : List Cond := (([Cond.fieldLink RX6 26 "WrongWord$Tape" "at" "I", Cond.fieldLink RX6 22 "WrongWord$Tape" "length" "I", Cond.fieldLink RX6 9 "WrongWord$Tape" "bytes" "[I"] : List Cond) ++ ([] : List Cond))
def wsX6_here : List Cond := .code yX6_here cX6_here 1 (some .int) :: (wsX6_here_o ++ (wsX60 ++ ([] : List Cond)))
set_option maxRecDepth 100000 in
theorem itX6_here_o : ∀ w ∈ wsX6_here_o, w ∈ lw_tbl := List.forall_mem_append.mpr ⟨fun w h => ch_1 w (mem_r (big := tables_1_1) _ [138, 132, 129] (by decide +kernel) w h), fun _ h => absurd h List.not_mem_nil⟩
set_option maxRecDepth 100000 in
theorem itX6_here : ∀ w ∈ wsX6_here, w ∈ lw_tbl := List.forall_mem_cons.mpr ⟨ch_2 _ (List.mem_of_getElem? (l := tables_1_2) (i := 102) (by decide +kernel)), List.forall_mem_append.mpr ⟨itX6_here_o, List.forall_mem_append.mpr ⟨itX60, fun _ h => absurd h List.not_mem_nil⟩⟩⟩
set_option maxRecDepth 100000 in
theorem gdX6_here_o : ∀ w ∈ wsX6_here_o, goodWord w = true := gd_o (by decide +kernel)
set_option maxRecDepth 100000 in
theorem gdX6_here : ∀ w ∈ wsX6_here, goodWord w = true := List.forall_mem_cons.mpr ⟨by decide +kernel, List.forall_mem_append.mpr ⟨gdX6_here_o, List.forall_mem_append.mpr ⟨gdX60, fun _ h => absurd h List.not_mem_nil⟩⟩⟩
def wsX6_faulty_o : List Cond := (([Cond.fieldLink RX6 105 "WrongWord$Tape" "fault" "I", Cond.fieldLink RX6 26 "WrongWord$Tape" "at" "I", Cond.fieldLink RX6 108 "WrongWord$Tape" "place" "I"] : List Cond) ++ ([] : List Cond))
def wsX6_faulty : List Cond := .code yX6_faulty cX6_faulty 2 (some .boolean) :: (wsX6_faulty_o ++ (wsX60 ++ ([] : List Cond)))
set_option maxRecDepth 100000 in
theorem itX6_faulty_o : ∀ w ∈ wsX6_faulty_o, w ∈ lw_tbl := List.forall_mem_append.mpr ⟨fun w h => ch_1 w (mem_r (big := tables_1_1) _ [135, 138, 137] (by decide +kernel) w h), fun _ h => absurd h List.not_mem_nil⟩
set_option maxRecDepth 100000 in
theorem itX6_faulty : ∀ w ∈ wsX6_faulty, w ∈ lw_tbl := List.forall_mem_cons.mpr ⟨ch_2 _ (List.mem_of_getElem? (l := tables_1_2) (i := 106) (by decide +kernel)), List.forall_mem_append.mpr ⟨itX6_faulty_o, List.forall_mem_append.mpr ⟨itX60, fun _ h => absurd h List.not_mem_nil⟩⟩⟩
set_option maxRecDepth 100000 in
theorem gdX6_faulty_o : ∀ w ∈ wsX6_faulty_o, goodWord w = true := gd_o (by decide +kernel)
set_option maxRecDepth 100000 in
theorem gdX6_faulty : ∀ w ∈ wsX6_faulty, goodWord w = true := List.forall_mem_cons.mpr ⟨by decide +kernel, List.forall_mem_append.mpr ⟨gdX6_faulty_o, List.forall_mem_append.mpr ⟨gdX60, fun _ h => absurd h List.not_mem_nil⟩⟩⟩
def wsX6_readSign_o : List Cond := (([Cond.selects RX6 yX6_here yX6_here, Cond.selects RX6 yX6_faulty yX6_faulty] : List Cond) ++ (([Cond.fieldLink RX6 26 "WrongWord$Tape" "at" "I", Cond.initialized RX6, Cond.fieldLink RX6 22 "WrongWord$Tape" "length" "I", Cond.fieldLink RX6 9 "WrongWord$Tape" "bytes" "[I", Cond.fieldLink RX6 105 "WrongWord$Tape" "fault" "I", Cond.fieldLink RX6 108 "WrongWord$Tape" "place" "I"] : List Cond) ++ (([Cond.methodLink RX6 42 yX6_here, Cond.instanceMethod yX6_here, Cond.methodLink RX6 78 yX6_faulty, Cond.instanceMethod yX6_faulty] : List Cond) ++ ([] : List Cond))))
def wsX6_readSign : List Cond := .code yX6_readSign cX6_readSign 2 (some .boolean) :: (wsX6_readSign_o ++ (wsX60 ++ (wsX6_here ++ (wsX6_faulty ++ ([] : List Cond)))))
set_option maxRecDepth 100000 in
theorem itX6_readSign_o : ∀ w ∈ wsX6_readSign_o, w ∈ lw_tbl := List.forall_mem_append.mpr ⟨fun w h => ch_0 w (mem_r (big := k2_sels lw_privs) _ [5, 6] (by decide +kernel) w h), List.forall_mem_append.mpr ⟨fun w h => ch_1 w (mem_r (big := tables_1_1) _ [138, 2, 132, 129, 135, 137] (by decide +kernel) w h), List.forall_mem_append.mpr ⟨fun w h => ch_2 w (mem_r (big := tables_1_2) _ [99, 101, 103, 105] (by decide +kernel) w h), fun _ h => absurd h List.not_mem_nil⟩⟩⟩
set_option maxRecDepth 100000 in
theorem itX6_readSign : ∀ w ∈ wsX6_readSign, w ∈ lw_tbl := List.forall_mem_cons.mpr ⟨ch_2 _ (List.mem_of_getElem? (l := tables_1_2) (i := 98) (by decide +kernel)), List.forall_mem_append.mpr ⟨itX6_readSign_o, List.forall_mem_append.mpr ⟨itX60, List.forall_mem_append.mpr ⟨itX6_here, List.forall_mem_append.mpr ⟨itX6_faulty, fun _ h => absurd h List.not_mem_nil⟩⟩⟩⟩⟩
set_option maxRecDepth 100000 in
theorem gdX6_readSign_o : ∀ w ∈ wsX6_readSign_o, goodWord w = true := gd_o (by decide +kernel)
set_option maxRecDepth 100000 in
theorem gdX6_readSign : ∀ w ∈ wsX6_readSign, goodWord w = true := List.forall_mem_cons.mpr ⟨by decide +kernel, List.forall_mem_append.mpr ⟨gdX6_readSign_o, List.forall_mem_append.mpr ⟨gdX60, List.forall_mem_append.mpr ⟨gdX6_here, List.forall_mem_append.mpr ⟨gdX6_faulty, fun _ h => absurd h List.not_mem_nil⟩⟩⟩⟩⟩
def wsX6_isFigure_o : List Cond := ([] : List Cond)
def wsX6_isFigure : List Cond := .code yX6_isFigure cX6_isFigure 1 (some .boolean) :: (wsX6_isFigure_o ++ ([] : List Cond))
set_option maxRecDepth 100000 in
theorem itX6_isFigure_o : ∀ w ∈ wsX6_isFigure_o, w ∈ lw_tbl := fun _ h => absurd h List.not_mem_nil
set_option maxRecDepth 100000 in
theorem itX6_isFigure : ∀ w ∈ wsX6_isFigure, w ∈ lw_tbl := List.forall_mem_cons.mpr ⟨ch_2 _ (List.mem_of_getElem? (l := tables_1_2) (i := 113) (by decide +kernel)), List.forall_mem_append.mpr ⟨itX6_isFigure_o, fun _ h => absurd h List.not_mem_nil⟩⟩
set_option maxRecDepth 100000 in
theorem gdX6_isFigure_o : ∀ w ∈ wsX6_isFigure_o, goodWord w = true := gd_o (by decide +kernel)
set_option maxRecDepth 100000 in
theorem gdX6_isFigure : ∀ w ∈ wsX6_isFigure, goodWord w = true := List.forall_mem_cons.mpr ⟨by decide +kernel, List.forall_mem_append.mpr ⟨gdX6_isFigure_o, fun _ h => absurd h List.not_mem_nil⟩⟩
def wsX6_readNumber_o : List Cond := (([Cond.selects RX6 yX6_faulty yX6_faulty] : List Cond) ++ (([Cond.fieldLink RX6 66 "WrongWord$Tape" "value" "I", Cond.fieldLink RX6 26 "WrongWord$Tape" "at" "I", Cond.fieldLink RX6 22 "WrongWord$Tape" "length" "I", Cond.fieldLink RX6 9 "WrongWord$Tape" "bytes" "[I", Cond.initialized RX6, Cond.fieldLink RX6 105 "WrongWord$Tape" "fault" "I", Cond.fieldLink RX6 108 "WrongWord$Tape" "place" "I"] : List Cond) ++ (([Cond.methodLink RX6 102 yX6_isFigure, Cond.static yX6_isFigure, Cond.methodLink RX6 78 yX6_faulty, Cond.instanceMethod yX6_faulty] : List Cond) ++ ([] : List Cond))))
def wsX6_readNumber : List Cond := .code yX6_readNumber cX6_readNumber 4 (some .boolean) :: (wsX6_readNumber_o ++ (wsX60 ++ (wsX6_isFigure ++ (wsX6_faulty ++ ([] : List Cond)))))
set_option maxRecDepth 100000 in
theorem itX6_readNumber_o : ∀ w ∈ wsX6_readNumber_o, w ∈ lw_tbl := List.forall_mem_append.mpr ⟨fun w h => ch_0 w (mem_r (big := k2_sels lw_privs) _ [6] (by decide +kernel) w h), List.forall_mem_append.mpr ⟨fun w h => ch_1 w (mem_r (big := tables_1_1) _ [139, 138, 132, 129, 2, 135, 137] (by decide +kernel) w h), List.forall_mem_append.mpr ⟨fun w h => ch_2 w (mem_r (big := tables_1_2) _ [111, 112, 103, 105] (by decide +kernel) w h), fun _ h => absurd h List.not_mem_nil⟩⟩⟩
set_option maxRecDepth 100000 in
theorem itX6_readNumber : ∀ w ∈ wsX6_readNumber, w ∈ lw_tbl := List.forall_mem_cons.mpr ⟨ch_2 _ (List.mem_of_getElem? (l := tables_1_2) (i := 110) (by decide +kernel)), List.forall_mem_append.mpr ⟨itX6_readNumber_o, List.forall_mem_append.mpr ⟨itX60, List.forall_mem_append.mpr ⟨itX6_isFigure, List.forall_mem_append.mpr ⟨itX6_faulty, fun _ h => absurd h List.not_mem_nil⟩⟩⟩⟩⟩
set_option maxRecDepth 100000 in
theorem gdX6_readNumber_o : ∀ w ∈ wsX6_readNumber_o, goodWord w = true := gd_o (by decide +kernel)
set_option maxRecDepth 100000 in
theorem gdX6_readNumber : ∀ w ∈ wsX6_readNumber, goodWord w = true := List.forall_mem_cons.mpr ⟨by decide +kernel, List.forall_mem_append.mpr ⟨gdX6_readNumber_o, List.forall_mem_append.mpr ⟨gdX60, List.forall_mem_append.mpr ⟨gdX6_isFigure, List.forall_mem_append.mpr ⟨gdX6_faulty, fun _ h => absurd h List.not_mem_nil⟩⟩⟩⟩⟩
def wsX6_readLaw_o : List Cond := (([Cond.selects RX6 yX6_readSign yX6_readSign, Cond.selects RX6 yX6_here yX6_here, Cond.selects RX6 yX6_faulty yX6_faulty, Cond.selects RX6 yX6_readNumber yX6_readNumber] : List Cond) ++ (([Cond.fieldLink RX6 18 "WrongWord$Tape" "draft" "LWrongWord$Gate;", Cond.fieldLink RX6 49 "WrongWord$Gate" "now" "LWrongWord$Moment;", Cond.fieldLink RX6 66 "WrongWord$Tape" "value" "I", Cond.fieldLink RX6 69 "WrongWord$Moment" "start" "I", Cond.fieldLink RX6 72 "WrongWord$Gate" "step" "I", Cond.fieldLink RX6 75 "WrongWord$Gate" "shrove" "I", Cond.initialized RX6, Cond.fieldLink RX6 26 "WrongWord$Tape" "at" "I", Cond.fieldLink RX6 22 "WrongWord$Tape" "length" "I", Cond.fieldLink RX6 9 "WrongWord$Tape" "bytes" "[I", Cond.fieldLink RX6 105 "WrongWord$Tape" "fault" "I", Cond.fieldLink RX6 108 "WrongWord$Tape" "place" "I"] : List Cond) ++ (([Cond.methodLink RX6 59 yX6_readSign, Cond.instanceMethod yX6_readSign, Cond.methodLink RX6 42 yX6_here, Cond.methodLink RX6 78 yX6_faulty, Cond.methodLink RX6 63 yX6_readNumber, Cond.instanceMethod yX6_readNumber, Cond.methodLink RX6 102 yX6_isFigure] : List Cond) ++ ([] : List Cond))))
def wsX6_readLaw : List Cond := .code yX6_readLaw cX6_readLaw 1 (some .boolean) :: (wsX6_readLaw_o ++ (wsX60 ++ (wsX20 ++ (wsX40 ++ (wsX6_readSign ++ (wsX6_readNumber ++ ([] : List Cond)))))))
set_option maxRecDepth 100000 in
theorem itX6_readLaw_o : ∀ w ∈ wsX6_readLaw_o, w ∈ lw_tbl := List.forall_mem_append.mpr ⟨fun w h => ch_0 w (mem_r (big := k2_sels lw_privs) _ [4, 5, 6, 7] (by decide +kernel) w h), List.forall_mem_append.mpr ⟨fun w h => ch_1 w (mem_r (big := tables_1_1) _ [130, 96, 139, 58, 99, 102, 2, 138, 132, 129, 135, 137] (by decide +kernel) w h), List.forall_mem_append.mpr ⟨fun w h => ch_2 w (mem_r (big := tables_1_2) _ [95, 97, 99, 103, 107, 109, 111] (by decide +kernel) w h), fun _ h => absurd h List.not_mem_nil⟩⟩⟩
set_option maxRecDepth 100000 in
theorem itX6_readLaw : ∀ w ∈ wsX6_readLaw, w ∈ lw_tbl := List.forall_mem_cons.mpr ⟨ch_2 _ (List.mem_of_getElem? (l := tables_1_2) (i := 94) (by decide +kernel)), List.forall_mem_append.mpr ⟨itX6_readLaw_o, List.forall_mem_append.mpr ⟨itX60, List.forall_mem_append.mpr ⟨itX20, List.forall_mem_append.mpr ⟨itX40, List.forall_mem_append.mpr ⟨itX6_readSign, List.forall_mem_append.mpr ⟨itX6_readNumber, fun _ h => absurd h List.not_mem_nil⟩⟩⟩⟩⟩⟩⟩
set_option maxRecDepth 100000 in
theorem gdX6_readLaw_o : ∀ w ∈ wsX6_readLaw_o, goodWord w = true := gd_o (by decide +kernel)
set_option maxRecDepth 100000 in
theorem gdX6_readLaw : ∀ w ∈ wsX6_readLaw, goodWord w = true := List.forall_mem_cons.mpr ⟨by decide +kernel, List.forall_mem_append.mpr ⟨gdX6_readLaw_o, List.forall_mem_append.mpr ⟨gdX60, List.forall_mem_append.mpr ⟨gdX20, List.forall_mem_append.mpr ⟨gdX40, List.forall_mem_append.mpr ⟨gdX6_readSign, List.forall_mem_append.mpr ⟨gdX6_readNumber, fun _ h => absurd h List.not_mem_nil⟩⟩⟩⟩⟩⟩⟩
def wsX6_wasTold_o : List Cond := (([Cond.fieldLink RX6 18 "WrongWord$Tape" "draft" "LWrongWord$Gate;", Cond.initialized RX2] : List Cond) ++ (([Cond.methodLink RX6 87 yX2_distance, Cond.instanceMethod yX2_distance, Cond.selects RX2 yX2_distance yX2_distance] : List Cond) ++ ([] : List Cond)))
def wsX6_wasTold : List Cond := .code yX6_wasTold cX6_wasTold 3 (some .boolean) :: (wsX6_wasTold_o ++ (wsX60 ++ (wsX20 ++ (wsX2_distance ++ ([] : List Cond)))))
set_option maxRecDepth 100000 in
theorem itX6_wasTold_o : ∀ w ∈ wsX6_wasTold_o, w ∈ lw_tbl := List.forall_mem_append.mpr ⟨fun w h => ch_1 w (mem_r (big := tables_1_1) _ [130, 3] (by decide +kernel) w h), List.forall_mem_append.mpr ⟨fun w h => ch_2 w (mem_r (big := tables_1_2) _ [122, 123, 124] (by decide +kernel) w h), fun _ h => absurd h List.not_mem_nil⟩⟩
set_option maxRecDepth 100000 in
theorem itX6_wasTold : ∀ w ∈ wsX6_wasTold, w ∈ lw_tbl := List.forall_mem_cons.mpr ⟨ch_2 _ (List.mem_of_getElem? (l := tables_1_2) (i := 121) (by decide +kernel)), List.forall_mem_append.mpr ⟨itX6_wasTold_o, List.forall_mem_append.mpr ⟨itX60, List.forall_mem_append.mpr ⟨itX20, List.forall_mem_append.mpr ⟨itX2_distance, fun _ h => absurd h List.not_mem_nil⟩⟩⟩⟩⟩
set_option maxRecDepth 100000 in
theorem gdX6_wasTold_o : ∀ w ∈ wsX6_wasTold_o, goodWord w = true := gd_o (by decide +kernel)
set_option maxRecDepth 100000 in
theorem gdX6_wasTold : ∀ w ∈ wsX6_wasTold, goodWord w = true := List.forall_mem_cons.mpr ⟨by decide +kernel, List.forall_mem_append.mpr ⟨gdX6_wasTold_o, List.forall_mem_append.mpr ⟨gdX60, List.forall_mem_append.mpr ⟨gdX20, List.forall_mem_append.mpr ⟨gdX2_distance, fun _ h => absurd h List.not_mem_nil⟩⟩⟩⟩⟩
def wsX6_readWord_o : List Cond := (([Cond.selects RX6 yX6_here yX6_here, Cond.selects RX6 yX6_faulty yX6_faulty, Cond.selects RX6 yX6_readSign yX6_readSign, Cond.selects RX6 yX6_wasTold yX6_wasTold] : List Cond) ++ (([Cond.fieldLink RX6 18 "WrongWord$Tape" "draft" "LWrongWord$Gate;", Cond.fieldLink RX6 29 "WrongWord$Gate" "words" "I", Cond.fieldLink RX6 81 "WrongWord$Gate" "letters" "[I", Cond.fieldLink RX6 26 "WrongWord$Tape" "at" "I", Cond.initialized RX6, Cond.fieldLink RX6 22 "WrongWord$Tape" "length" "I", Cond.fieldLink RX6 9 "WrongWord$Tape" "bytes" "[I", Cond.fieldLink RX6 105 "WrongWord$Tape" "fault" "I", Cond.fieldLink RX6 108 "WrongWord$Tape" "place" "I"] : List Cond) ++ (([Cond.methodLink RX6 42 yX6_here, Cond.instanceMethod yX6_here, Cond.methodLink RX6 78 yX6_faulty, Cond.instanceMethod yX6_faulty, Cond.methodLink RX6 59 yX6_readSign, Cond.instanceMethod yX6_readSign, Cond.methodLink RX6 84 yX6_wasTold, Cond.instanceMethod yX6_wasTold, Cond.methodLink RX6 87 yX2_distance] : List Cond) ++ ([] : List Cond))))
def wsX6_readWord : List Cond := .code yX6_readWord cX6_readWord 3 (some .boolean) :: (wsX6_readWord_o ++ (wsX60 ++ (wsX20 ++ (wsX6_here ++ (wsX6_faulty ++ (wsX6_readSign ++ (wsX6_wasTold ++ ([] : List Cond))))))))
set_option maxRecDepth 100000 in
theorem itX6_readWord_o : ∀ w ∈ wsX6_readWord_o, w ∈ lw_tbl := List.forall_mem_append.mpr ⟨fun w h => ch_0 w (mem_r (big := k2_sels lw_privs) _ [5, 6, 4, 9] (by decide +kernel) w h), List.forall_mem_append.mpr ⟨fun w h => ch_1 w (mem_r (big := tables_1_1) _ [130, 106, 85, 138, 2, 132, 129, 135, 137] (by decide +kernel) w h), List.forall_mem_append.mpr ⟨fun w h => ch_2 w (mem_r (big := tables_1_2) _ [99, 101, 103, 105, 95, 97, 118, 120, 122] (by decide +kernel) w h), fun _ h => absurd h List.not_mem_nil⟩⟩⟩
set_option maxRecDepth 100000 in
theorem itX6_readWord : ∀ w ∈ wsX6_readWord, w ∈ lw_tbl := List.forall_mem_cons.mpr ⟨ch_2 _ (List.mem_of_getElem? (l := tables_1_2) (i := 117) (by decide +kernel)), List.forall_mem_append.mpr ⟨itX6_readWord_o, List.forall_mem_append.mpr ⟨itX60, List.forall_mem_append.mpr ⟨itX20, List.forall_mem_append.mpr ⟨itX6_here, List.forall_mem_append.mpr ⟨itX6_faulty, List.forall_mem_append.mpr ⟨itX6_readSign, List.forall_mem_append.mpr ⟨itX6_wasTold, fun _ h => absurd h List.not_mem_nil⟩⟩⟩⟩⟩⟩⟩⟩
set_option maxRecDepth 100000 in
theorem gdX6_readWord_o : ∀ w ∈ wsX6_readWord_o, goodWord w = true := gd_o (by decide +kernel)
set_option maxRecDepth 100000 in
theorem gdX6_readWord : ∀ w ∈ wsX6_readWord, goodWord w = true := List.forall_mem_cons.mpr ⟨by decide +kernel, List.forall_mem_append.mpr ⟨gdX6_readWord_o, List.forall_mem_append.mpr ⟨gdX60, List.forall_mem_append.mpr ⟨gdX20, List.forall_mem_append.mpr ⟨gdX6_here, List.forall_mem_append.mpr ⟨gdX6_faulty, List.forall_mem_append.mpr ⟨gdX6_readSign, List.forall_mem_append.mpr ⟨gdX6_wasTold, fun _ h => absurd h List.not_mem_nil⟩⟩⟩⟩⟩⟩⟩⟩
def wsX6_kindOf_o : List Cond := (([Cond.constant RX6 95 (-1000000)] : List Cond) ++ ([] : List Cond))
def wsX6_kindOf : List Cond := .code yX6_kindOf cX6_kindOf 1 (some .int) :: (wsX6_kindOf_o ++ ([] : List Cond))
set_option maxRecDepth 100000 in
theorem itX6_kindOf_o : ∀ w ∈ wsX6_kindOf_o, w ∈ lw_tbl := List.forall_mem_append.mpr ⟨fun w h => ch_2 w (mem_r (big := tables_1_2) _ [133] (by decide +kernel) w h), fun _ h => absurd h List.not_mem_nil⟩
set_option maxRecDepth 100000 in
theorem itX6_kindOf : ∀ w ∈ wsX6_kindOf, w ∈ lw_tbl := List.forall_mem_cons.mpr ⟨ch_2 _ (List.mem_of_getElem? (l := tables_1_2) (i := 132) (by decide +kernel)), List.forall_mem_append.mpr ⟨itX6_kindOf_o, fun _ h => absurd h List.not_mem_nil⟩⟩
set_option maxRecDepth 100000 in
theorem gdX6_kindOf_o : ∀ w ∈ wsX6_kindOf_o, goodWord w = true := gd_o (by decide +kernel)
set_option maxRecDepth 100000 in
theorem gdX6_kindOf : ∀ w ∈ wsX6_kindOf, goodWord w = true := List.forall_mem_cons.mpr ⟨by decide +kernel, List.forall_mem_append.mpr ⟨gdX6_kindOf_o, fun _ h => absurd h List.not_mem_nil⟩⟩
def wsX6_readGuard_o : List Cond := (([Cond.selects RX6 yX6_here yX6_here, Cond.selects RX6 yX6_faulty yX6_faulty, Cond.selects RX6 yX6_readNumber yX6_readNumber, Cond.selects RX6 yX6_readSign yX6_readSign] : List Cond) ++ (([Cond.fieldLink RX6 18 "WrongWord$Tape" "draft" "LWrongWord$Gate;", Cond.fieldLink RX6 32 "WrongWord$Gate" "guards" "I", Cond.fieldLink RX6 26 "WrongWord$Tape" "at" "I", Cond.fieldLink RX6 96 "WrongWord$Gate" "kinds" "[I", Cond.fieldLink RX6 99 "WrongWord$Gate" "fees" "[I", Cond.fieldLink RX6 66 "WrongWord$Tape" "value" "I", Cond.initialized RX6, Cond.fieldLink RX6 22 "WrongWord$Tape" "length" "I", Cond.fieldLink RX6 9 "WrongWord$Tape" "bytes" "[I", Cond.fieldLink RX6 105 "WrongWord$Tape" "fault" "I", Cond.fieldLink RX6 108 "WrongWord$Tape" "place" "I"] : List Cond) ++ (([Cond.constant RX6 95 (-1000000), Cond.methodLink RX6 42 yX6_here, Cond.instanceMethod yX6_here, Cond.methodLink RX6 91 yX6_kindOf, Cond.static yX6_kindOf, Cond.methodLink RX6 78 yX6_faulty, Cond.instanceMethod yX6_faulty, Cond.methodLink RX6 63 yX6_readNumber, Cond.instanceMethod yX6_readNumber, Cond.methodLink RX6 102 yX6_isFigure, Cond.methodLink RX6 59 yX6_readSign, Cond.instanceMethod yX6_readSign] : List Cond) ++ ([] : List Cond))))
def wsX6_readGuard : List Cond := .code yX6_readGuard cX6_readGuard 2 (some .boolean) :: (wsX6_readGuard_o ++ (wsX60 ++ (wsX20 ++ (wsX6_here ++ (wsX6_kindOf ++ (wsX6_faulty ++ (wsX6_readNumber ++ (wsX6_readSign ++ ([] : List Cond)))))))))
set_option maxRecDepth 100000 in
theorem itX6_readGuard_o : ∀ w ∈ wsX6_readGuard_o, w ∈ lw_tbl := List.forall_mem_append.mpr ⟨fun w h => ch_0 w (mem_r (big := k2_sels lw_privs) _ [5, 6, 7, 4] (by decide +kernel) w h), List.forall_mem_append.mpr ⟨fun w h => ch_1 w (mem_r (big := tables_1_1) _ [130, 109, 138, 89, 92, 139, 2, 132, 129, 135, 137] (by decide +kernel) w h), List.forall_mem_append.mpr ⟨fun w h => ch_2 w (mem_r (big := tables_1_2) _ [133, 99, 101, 130, 131, 103, 105, 107, 109, 111, 95, 97] (by decide +kernel) w h), fun _ h => absurd h List.not_mem_nil⟩⟩⟩
set_option maxRecDepth 100000 in
theorem itX6_readGuard : ∀ w ∈ wsX6_readGuard, w ∈ lw_tbl := List.forall_mem_cons.mpr ⟨ch_2 _ (List.mem_of_getElem? (l := tables_1_2) (i := 129) (by decide +kernel)), List.forall_mem_append.mpr ⟨itX6_readGuard_o, List.forall_mem_append.mpr ⟨itX60, List.forall_mem_append.mpr ⟨itX20, List.forall_mem_append.mpr ⟨itX6_here, List.forall_mem_append.mpr ⟨itX6_kindOf, List.forall_mem_append.mpr ⟨itX6_faulty, List.forall_mem_append.mpr ⟨itX6_readNumber, List.forall_mem_append.mpr ⟨itX6_readSign, fun _ h => absurd h List.not_mem_nil⟩⟩⟩⟩⟩⟩⟩⟩⟩
set_option maxRecDepth 100000 in
theorem gdX6_readGuard_o : ∀ w ∈ wsX6_readGuard_o, goodWord w = true := gd_o (by decide +kernel)
set_option maxRecDepth 100000 in
theorem gdX6_readGuard : ∀ w ∈ wsX6_readGuard, goodWord w = true := List.forall_mem_cons.mpr ⟨by decide +kernel, List.forall_mem_append.mpr ⟨gdX6_readGuard_o, List.forall_mem_append.mpr ⟨gdX60, List.forall_mem_append.mpr ⟨gdX20, List.forall_mem_append.mpr ⟨gdX6_here, List.forall_mem_append.mpr ⟨gdX6_kindOf, List.forall_mem_append.mpr ⟨gdX6_faulty, List.forall_mem_append.mpr ⟨gdX6_readNumber, List.forall_mem_append.mpr ⟨gdX6_readSign, fun _ h => absurd h List.not_mem_nil⟩⟩⟩⟩⟩⟩⟩⟩⟩
def wsX6_read_o : List Cond := (([Cond.selects RX6 yX6_readLaw yX6_readLaw, Cond.selects RX6 yX6_readSign yX6_readSign, Cond.selects RX6 yX6_here yX6_here, Cond.selects RX6 yX6_faulty yX6_faulty, Cond.selects RX6 yX6_readNumber yX6_readNumber, Cond.selects RX6 yX6_readWord yX6_readWord, Cond.selects RX6 yX6_wasTold yX6_wasTold, Cond.selects RX6 yX6_readGuard yX6_readGuard] : List Cond) ++ (([Cond.fieldLink RX6 26 "WrongWord$Tape" "at" "I", Cond.fieldLink RX6 18 "WrongWord$Tape" "draft" "LWrongWord$Gate;", Cond.fieldLink RX6 29 "WrongWord$Gate" "words" "I", Cond.fieldLink RX6 32 "WrongWord$Gate" "guards" "I", Cond.fieldLink RX6 49 "WrongWord$Gate" "now" "LWrongWord$Moment;", Cond.initialized RX6, Cond.fieldLink RX6 66 "WrongWord$Tape" "value" "I", Cond.fieldLink RX6 69 "WrongWord$Moment" "start" "I", Cond.fieldLink RX6 72 "WrongWord$Gate" "step" "I", Cond.fieldLink RX6 75 "WrongWord$Gate" "shrove" "I", Cond.fieldLink RX6 22 "WrongWord$Tape" "length" "I", Cond.fieldLink RX6 9 "WrongWord$Tape" "bytes" "[I", Cond.fieldLink RX6 105 "WrongWord$Tape" "fault" "I", Cond.fieldLink RX6 108 "WrongWord$Tape" "place" "I", Cond.fieldLink RX6 81 "WrongWord$Gate" "letters" "[I", Cond.fieldLink RX6 96 "WrongWord$Gate" "kinds" "[I", Cond.fieldLink RX6 99 "WrongWord$Gate" "fees" "[I", Cond.initialized RX4] : List Cond) ++ (([Cond.methodLink RX6 35 yX6_readLaw, Cond.instanceMethod yX6_readLaw, Cond.methodLink RX6 59 yX6_readSign, Cond.methodLink RX6 42 yX6_here, Cond.instanceMethod yX6_here, Cond.methodLink RX6 78 yX6_faulty, Cond.methodLink RX6 63 yX6_readNumber, Cond.methodLink RX6 102 yX6_isFigure, Cond.methodLink RX6 39 yX6_readWord, Cond.instanceMethod yX6_readWord, Cond.methodLink RX6 84 yX6_wasTold, Cond.methodLink RX6 87 yX2_distance, Cond.methodLink RX6 46 yX6_readGuard, Cond.instanceMethod yX6_readGuard, Cond.constant RX6 95 (-1000000), Cond.methodLink RX6 91 yX6_kindOf, Cond.methodLink RX6 53 yX4_begin, Cond.instanceMethod yX4_begin, Cond.selects RX4 yX4_begin yX4_begin] : List Cond) ++ ([] : List Cond))))
def wsX6_read : List Cond := .code yX6_read cX6_read 2 (some .boolean) :: (wsX6_read_o ++ (wsX60 ++ (wsX20 ++ (wsX40 ++ (wsX6_readLaw ++ (wsX6_readWord ++ (wsX6_here ++ (wsX6_readGuard ++ (wsX4_begin ++ ([] : List Cond))))))))))
set_option maxRecDepth 100000 in
theorem itX6_read_o : ∀ w ∈ wsX6_read_o, w ∈ lw_tbl := List.forall_mem_append.mpr ⟨fun w h => ch_0 w (mem_r (big := k2_sels lw_privs) _ [3, 4, 5, 6, 7, 8, 9, 10] (by decide +kernel) w h), List.forall_mem_append.mpr ⟨fun w h => ch_1 w (mem_r (big := tables_1_1) _ [138, 130, 106, 109, 96, 2, 139, 58, 99, 102, 132, 129, 135, 137, 85, 89, 92, 4] (by decide +kernel) w h), List.forall_mem_append.mpr ⟨fun w h => ch_2 w (mem_r (big := tables_1_2) _ [91, 93, 95, 99, 101, 103, 107, 111, 114, 116, 118, 122, 126, 128, 133, 130, 134, 135, 136] (by decide +kernel) w h), fun _ h => absurd h List.not_mem_nil⟩⟩⟩
set_option maxRecDepth 100000 in
theorem itX6_read : ∀ w ∈ wsX6_read, w ∈ lw_tbl := List.forall_mem_cons.mpr ⟨ch_2 _ (List.mem_of_getElem? (l := tables_1_2) (i := 90) (by decide +kernel)), List.forall_mem_append.mpr ⟨itX6_read_o, List.forall_mem_append.mpr ⟨itX60, List.forall_mem_append.mpr ⟨itX20, List.forall_mem_append.mpr ⟨itX40, List.forall_mem_append.mpr ⟨itX6_readLaw, List.forall_mem_append.mpr ⟨itX6_readWord, List.forall_mem_append.mpr ⟨itX6_here, List.forall_mem_append.mpr ⟨itX6_readGuard, List.forall_mem_append.mpr ⟨itX4_begin, fun _ h => absurd h List.not_mem_nil⟩⟩⟩⟩⟩⟩⟩⟩⟩⟩
set_option maxRecDepth 100000 in
theorem gdX6_read_o : ∀ w ∈ wsX6_read_o, goodWord w = true := gd_o (by decide +kernel)
set_option maxRecDepth 100000 in
theorem gdX6_read : ∀ w ∈ wsX6_read, goodWord w = true := List.forall_mem_cons.mpr ⟨by decide +kernel, List.forall_mem_append.mpr ⟨gdX6_read_o, List.forall_mem_append.mpr ⟨gdX60, List.forall_mem_append.mpr ⟨gdX20, List.forall_mem_append.mpr ⟨gdX40, List.forall_mem_append.mpr ⟨gdX6_readLaw, List.forall_mem_append.mpr ⟨gdX6_readWord, List.forall_mem_append.mpr ⟨gdX6_here, List.forall_mem_append.mpr ⟨gdX6_readGuard, List.forall_mem_append.mpr ⟨gdX4_begin, fun _ h => absurd h List.not_mem_nil⟩⟩⟩⟩⟩⟩⟩⟩⟩⟩
def wsX7_init_o : List Cond := (([Cond.methodLink RX7 1 objectInit, Cond.classLink RX7 9 RX5, Cond.fieldLink RX7 11 "WrongWord" "rows" "[LWrongWord$Row;", Cond.classLink RX7 15 RX6, Cond.instantiable RX6 7, Cond.initialized RX6, Cond.fieldLink RX7 18 "WrongWord" "tape" "LWrongWord$Tape;", Cond.classLink RX7 22 RX2, Cond.fieldLink RX7 25 "WrongWord" "gate" "LWrongWord$Gate;", Cond.classLink RX7 29 RX0, Cond.instantiable RX0 3, Cond.initialized RX0, Cond.fieldLink RX7 32 "WrongWord" "acts" "LWrongWord$Acts;", Cond.classLink RX7 40 RX3, Cond.instantiable RX3 2, Cond.initialized RX3, Cond.classLink RX7 47 RX1, Cond.instantiable RX1 6, Cond.initialized RX1, Cond.instantiable RX5 3, Cond.initialized RX5, Cond.instanceMethod yX6_init, Cond.instanceMethod yX2_init, Cond.methodLink RX7 31 yX0_init, Cond.instanceMethod yX0_init, Cond.instanceMethod yX3_init, Cond.instanceMethod yX1_init, Cond.instanceMethod yX5_init] : List Cond) ++ (([Cond.fieldLink RX7 36 "WrongWord" "images" "[LWrongWord$Gate;", Cond.fieldLink RX7 43 "WrongWord" "guesses" "LWrongWord$Guesses;", Cond.fieldLink RX7 50 "WrongWord" "asks" "LWrongWord$Asks;"] : List Cond) ++ ([] : List Cond)))
def wsX7_init : List Cond := .code yX7_init cX7_init 2 none :: (wsX7_init_o ++ (wsX70 ++ (wsX60 ++ (wsX20 ++ (wsX00 ++ (wsX30 ++ (wsX10 ++ (wsX50 ++ (wsX40 ++ (wsX6_init ++ (wsX2_init ++ (wsX0_init ++ (wsX3_init ++ (wsX1_init ++ (wsX5_init ++ ([] : List Cond))))))))))))))))
set_option maxRecDepth 100000 in
theorem itX7_init_o : ∀ w ∈ wsX7_init_o, w ∈ lw_tbl := List.forall_mem_append.mpr ⟨fun w h => ch_1 w (mem_r (big := tables_1_1) _ [18, 21, 236, 23, 24, 2, 237, 155, 238, 157, 158, 5, 239, 178, 179, 6, 191, 192, 7, 218, 8, 26, 32, 159, 160, 181, 194, 220] (by decide +kernel) w h), List.forall_mem_append.mpr ⟨fun w h => ch_2 w (mem_r (big := tables_1_2) _ [0, 1, 2] (by decide +kernel) w h), fun _ h => absurd h List.not_mem_nil⟩⟩
set_option maxRecDepth 100000 in
theorem itX7_init : ∀ w ∈ wsX7_init, w ∈ lw_tbl := List.forall_mem_cons.mpr ⟨ch_1 _ (List.mem_of_getElem? (l := tables_1_1) (i := 17) (by decide +kernel)), List.forall_mem_append.mpr ⟨itX7_init_o, List.forall_mem_append.mpr ⟨itX70, List.forall_mem_append.mpr ⟨itX60, List.forall_mem_append.mpr ⟨itX20, List.forall_mem_append.mpr ⟨itX00, List.forall_mem_append.mpr ⟨itX30, List.forall_mem_append.mpr ⟨itX10, List.forall_mem_append.mpr ⟨itX50, List.forall_mem_append.mpr ⟨itX40, List.forall_mem_append.mpr ⟨itX6_init, List.forall_mem_append.mpr ⟨itX2_init, List.forall_mem_append.mpr ⟨itX0_init, List.forall_mem_append.mpr ⟨itX3_init, List.forall_mem_append.mpr ⟨itX1_init, List.forall_mem_append.mpr ⟨itX5_init, fun _ h => absurd h List.not_mem_nil⟩⟩⟩⟩⟩⟩⟩⟩⟩⟩⟩⟩⟩⟩⟩⟩
set_option maxRecDepth 100000 in
theorem gdX7_init_o : ∀ w ∈ wsX7_init_o, goodWord w = true := gd_o (by decide +kernel)
set_option maxRecDepth 100000 in
theorem gdX7_init : ∀ w ∈ wsX7_init, goodWord w = true := List.forall_mem_cons.mpr ⟨by decide +kernel, List.forall_mem_append.mpr ⟨gdX7_init_o, List.forall_mem_append.mpr ⟨gdX70, List.forall_mem_append.mpr ⟨gdX60, List.forall_mem_append.mpr ⟨gdX20, List.forall_mem_append.mpr ⟨gdX00, List.forall_mem_append.mpr ⟨gdX30, List.forall_mem_append.mpr ⟨gdX10, List.forall_mem_append.mpr ⟨gdX50, List.forall_mem_append.mpr ⟨gdX40, List.forall_mem_append.mpr ⟨gdX6_init, List.forall_mem_append.mpr ⟨gdX2_init, List.forall_mem_append.mpr ⟨gdX0_init, List.forall_mem_append.mpr ⟨gdX3_init, List.forall_mem_append.mpr ⟨gdX1_init, List.forall_mem_append.mpr ⟨gdX5_init, fun _ h => absurd h List.not_mem_nil⟩⟩⟩⟩⟩⟩⟩⟩⟩⟩⟩⟩⟩⟩⟩⟩
def wsX7_isRow_o : List Cond := ([] : List Cond)
def wsX7_isRow : List Cond := .code yX7_isRow cX7_isRow 2 (some .boolean) :: (wsX7_isRow_o ++ ([] : List Cond))
set_option maxRecDepth 100000 in
theorem itX7_isRow_o : ∀ w ∈ wsX7_isRow_o, w ∈ lw_tbl := fun _ h => absurd h List.not_mem_nil
set_option maxRecDepth 100000 in
theorem itX7_isRow : ∀ w ∈ wsX7_isRow, w ∈ lw_tbl := List.forall_mem_cons.mpr ⟨ch_2 _ (List.mem_of_getElem? (l := tables_1_2) (i := 31) (by decide +kernel)), List.forall_mem_append.mpr ⟨itX7_isRow_o, fun _ h => absurd h List.not_mem_nil⟩⟩
set_option maxRecDepth 100000 in
theorem gdX7_isRow_o : ∀ w ∈ wsX7_isRow_o, goodWord w = true := gd_o (by decide +kernel)
set_option maxRecDepth 100000 in
theorem gdX7_isRow : ∀ w ∈ wsX7_isRow, goodWord w = true := List.forall_mem_cons.mpr ⟨by decide +kernel, List.forall_mem_append.mpr ⟨gdX7_isRow_o, fun _ h => absurd h List.not_mem_nil⟩⟩
def wsX7_found_o : List Cond := (([Cond.fieldLink RX7 333 "WrongWord" "latestFinding" "I", Cond.constant RX7 336 (-1000010)] : List Cond) ++ ([] : List Cond))
def wsX7_found : List Cond := .code yX7_found cX7_found 2 (some .int) :: (wsX7_found_o ++ (wsX70 ++ ([] : List Cond)))
set_option maxRecDepth 100000 in
theorem itX7_found_o : ∀ w ∈ wsX7_found_o, w ∈ lw_tbl := List.forall_mem_append.mpr ⟨fun w h => ch_2 w (mem_r (big := tables_1_2) _ [4, 37] (by decide +kernel) w h), fun _ h => absurd h List.not_mem_nil⟩
set_option maxRecDepth 100000 in
theorem itX7_found : ∀ w ∈ wsX7_found, w ∈ lw_tbl := List.forall_mem_cons.mpr ⟨ch_2 _ (List.mem_of_getElem? (l := tables_1_2) (i := 36) (by decide +kernel)), List.forall_mem_append.mpr ⟨itX7_found_o, List.forall_mem_append.mpr ⟨itX70, fun _ h => absurd h List.not_mem_nil⟩⟩⟩
set_option maxRecDepth 100000 in
theorem gdX7_found_o : ∀ w ∈ wsX7_found_o, goodWord w = true := gd_o (by decide +kernel)
set_option maxRecDepth 100000 in
theorem gdX7_found : ∀ w ∈ wsX7_found, goodWord w = true := List.forall_mem_cons.mpr ⟨by decide +kernel, List.forall_mem_append.mpr ⟨gdX7_found_o, List.forall_mem_append.mpr ⟨gdX70, fun _ h => absurd h List.not_mem_nil⟩⟩⟩
def wsX7_unfound_o : List Cond := (([Cond.fieldLink RX7 333 "WrongWord" "latestFinding" "I"] : List Cond) ++ ([] : List Cond))
def wsX7_unfound : List Cond := .code yX7_unfound cX7_unfound 2 (some .int) :: (wsX7_unfound_o ++ (wsX70 ++ ([] : List Cond)))
set_option maxRecDepth 100000 in
theorem itX7_unfound_o : ∀ w ∈ wsX7_unfound_o, w ∈ lw_tbl := List.forall_mem_append.mpr ⟨fun w h => ch_2 w (mem_r (big := tables_1_2) _ [4] (by decide +kernel) w h), fun _ h => absurd h List.not_mem_nil⟩
set_option maxRecDepth 100000 in
theorem itX7_unfound : ∀ w ∈ wsX7_unfound, w ∈ lw_tbl := List.forall_mem_cons.mpr ⟨ch_2 _ (List.mem_of_getElem? (l := tables_1_2) (i := 45) (by decide +kernel)), List.forall_mem_append.mpr ⟨itX7_unfound_o, List.forall_mem_append.mpr ⟨itX70, fun _ h => absurd h List.not_mem_nil⟩⟩⟩
set_option maxRecDepth 100000 in
theorem gdX7_unfound_o : ∀ w ∈ wsX7_unfound_o, goodWord w = true := gd_o (by decide +kernel)
set_option maxRecDepth 100000 in
theorem gdX7_unfound : ∀ w ∈ wsX7_unfound, goodWord w = true := List.forall_mem_cons.mpr ⟨by decide +kernel, List.forall_mem_append.mpr ⟨gdX7_unfound_o, List.forall_mem_append.mpr ⟨gdX70, fun _ h => absurd h List.not_mem_nil⟩⟩⟩
def wsX7_row_o : List Cond := (([Cond.selects RX7 yX7_isRow yX7_isRow, Cond.selects RX7 yX7_found yX7_found, Cond.selects RX7 yX7_unfound yX7_unfound] : List Cond) ++ (([Cond.fieldLink RX7 11 "WrongWord" "rows" "[LWrongWord$Row;", Cond.initialized RX7, Cond.initialized RX5] : List Cond) ++ (([Cond.constant RX7 59 (-1000001), Cond.methodLink RX7 55 yX7_isRow, Cond.instanceMethod yX7_isRow, Cond.methodLink RX7 60 yX7_found, Cond.instanceMethod yX7_found, Cond.fieldLink RX7 333 "WrongWord" "latestFinding" "I", Cond.constant RX7 336 (-1000010), Cond.methodLink RX7 64 yX5_make, Cond.instanceMethod yX5_make, Cond.selects RX5 yX5_make yX5_make, Cond.methodLink RX7 68 yX7_unfound, Cond.instanceMethod yX7_unfound] : List Cond) ++ ([] : List Cond))))
def wsX7_row : List Cond := .code yX7_row cX7_row 4 (some .int) :: (wsX7_row_o ++ (wsX70 ++ (wsX50 ++ (wsX7_isRow ++ (wsX7_found ++ (wsX5_make ++ (wsX7_unfound ++ ([] : List Cond))))))))
set_option maxRecDepth 100000 in
theorem itX7_row_o : ∀ w ∈ wsX7_row_o, w ∈ lw_tbl := List.forall_mem_append.mpr ⟨fun w h => ch_0 w (mem_r (big := k2_sels lw_privs) _ [0, 1, 2] (by decide +kernel) w h), List.forall_mem_append.mpr ⟨fun w h => ch_1 w (mem_r (big := tables_1_1) _ [236, 1, 8] (by decide +kernel) w h), List.forall_mem_append.mpr ⟨fun w h => ch_2 w (mem_r (big := tables_1_2) _ [32, 28, 30, 33, 35, 4, 37, 38, 39, 40, 42, 44] (by decide +kernel) w h), fun _ h => absurd h List.not_mem_nil⟩⟩⟩
set_option maxRecDepth 100000 in
theorem itX7_row : ∀ w ∈ wsX7_row, w ∈ lw_tbl := List.forall_mem_cons.mpr ⟨ch_2 _ (List.mem_of_getElem? (l := tables_1_2) (i := 27) (by decide +kernel)), List.forall_mem_append.mpr ⟨itX7_row_o, List.forall_mem_append.mpr ⟨itX70, List.forall_mem_append.mpr ⟨itX50, List.forall_mem_append.mpr ⟨itX7_isRow, List.forall_mem_append.mpr ⟨itX7_found, List.forall_mem_append.mpr ⟨itX5_make, List.forall_mem_append.mpr ⟨itX7_unfound, fun _ h => absurd h List.not_mem_nil⟩⟩⟩⟩⟩⟩⟩⟩
set_option maxRecDepth 100000 in
theorem gdX7_row_o : ∀ w ∈ wsX7_row_o, goodWord w = true := gd_o (by decide +kernel)
set_option maxRecDepth 100000 in
theorem gdX7_row : ∀ w ∈ wsX7_row, goodWord w = true := List.forall_mem_cons.mpr ⟨by decide +kernel, List.forall_mem_append.mpr ⟨gdX7_row_o, List.forall_mem_append.mpr ⟨gdX70, List.forall_mem_append.mpr ⟨gdX50, List.forall_mem_append.mpr ⟨gdX7_isRow, List.forall_mem_append.mpr ⟨gdX7_found, List.forall_mem_append.mpr ⟨gdX5_make, List.forall_mem_append.mpr ⟨gdX7_unfound, fun _ h => absurd h List.not_mem_nil⟩⟩⟩⟩⟩⟩⟩⟩
def wsX7_set_o : List Cond := (([Cond.selects RX7 yX7_isRow yX7_isRow, Cond.selects RX7 yX7_found yX7_found, Cond.selects RX7 yX7_unfound yX7_unfound] : List Cond) ++ (([Cond.fieldLink RX7 11 "WrongWord" "rows" "[LWrongWord$Row;", Cond.initialized RX7] : List Cond) ++ (([Cond.constant RX7 59 (-1000001), Cond.methodLink RX7 55 yX7_isRow, Cond.instanceMethod yX7_isRow, Cond.methodLink RX7 71 yX5_findingOf, Cond.instanceMethod yX5_findingOf, Cond.selects RX5 yX5_findingOf yX5_findingOf, Cond.methodLink RX7 60 yX7_found, Cond.instanceMethod yX7_found, Cond.fieldLink RX7 333 "WrongWord" "latestFinding" "I", Cond.constant RX7 336 (-1000010), Cond.methodLink RX7 75 yX5_put, Cond.instanceMethod yX5_put, Cond.selects RX5 yX5_put yX5_put, Cond.methodLink RX7 68 yX7_unfound, Cond.instanceMethod yX7_unfound] : List Cond) ++ ([] : List Cond))))
def wsX7_set : List Cond := .code yX7_set cX7_set 5 (some .int) :: (wsX7_set_o ++ (wsX70 ++ (wsX50 ++ (wsX7_isRow ++ (wsX5_findingOf ++ (wsX7_found ++ (wsX5_put ++ (wsX7_unfound ++ ([] : List Cond)))))))))
set_option maxRecDepth 100000 in
theorem itX7_set_o : ∀ w ∈ wsX7_set_o, w ∈ lw_tbl := List.forall_mem_append.mpr ⟨fun w h => ch_0 w (mem_r (big := k2_sels lw_privs) _ [0, 1, 2] (by decide +kernel) w h), List.forall_mem_append.mpr ⟨fun w h => ch_1 w (mem_r (big := tables_1_1) _ [236, 1] (by decide +kernel) w h), List.forall_mem_append.mpr ⟨fun w h => ch_2 w (mem_r (big := tables_1_2) _ [32, 28, 30, 50, 51, 52, 33, 35, 4, 37, 58, 59, 60, 42, 44] (by decide +kernel) w h), fun _ h => absurd h List.not_mem_nil⟩⟩⟩
set_option maxRecDepth 100000 in
theorem itX7_set : ∀ w ∈ wsX7_set, w ∈ lw_tbl := List.forall_mem_cons.mpr ⟨ch_2 _ (List.mem_of_getElem? (l := tables_1_2) (i := 49) (by decide +kernel)), List.forall_mem_append.mpr ⟨itX7_set_o, List.forall_mem_append.mpr ⟨itX70, List.forall_mem_append.mpr ⟨itX50, List.forall_mem_append.mpr ⟨itX7_isRow, List.forall_mem_append.mpr ⟨itX5_findingOf, List.forall_mem_append.mpr ⟨itX7_found, List.forall_mem_append.mpr ⟨itX5_put, List.forall_mem_append.mpr ⟨itX7_unfound, fun _ h => absurd h List.not_mem_nil⟩⟩⟩⟩⟩⟩⟩⟩⟩
set_option maxRecDepth 100000 in
theorem gdX7_set_o : ∀ w ∈ wsX7_set_o, goodWord w = true := gd_o (by decide +kernel)
set_option maxRecDepth 100000 in
theorem gdX7_set : ∀ w ∈ wsX7_set, goodWord w = true := List.forall_mem_cons.mpr ⟨by decide +kernel, List.forall_mem_append.mpr ⟨gdX7_set_o, List.forall_mem_append.mpr ⟨gdX70, List.forall_mem_append.mpr ⟨gdX50, List.forall_mem_append.mpr ⟨gdX7_isRow, List.forall_mem_append.mpr ⟨gdX5_findingOf, List.forall_mem_append.mpr ⟨gdX7_found, List.forall_mem_append.mpr ⟨gdX5_put, List.forall_mem_append.mpr ⟨gdX7_unfound, fun _ h => absurd h List.not_mem_nil⟩⟩⟩⟩⟩⟩⟩⟩⟩
def wsX7_copy_o : List Cond := (([Cond.selects RX7 yX7_isRow yX7_isRow, Cond.selects RX7 yX7_found yX7_found, Cond.selects RX7 yX7_unfound yX7_unfound] : List Cond) ++ (([Cond.fieldLink RX7 11 "WrongWord" "rows" "[LWrongWord$Row;", Cond.fieldLink RX7 78 "WrongWord$Row" "lane" "I", Cond.fieldLink RX7 86 "WrongWord$Row" "items" "[I", Cond.initialized "java/lang/System", Cond.initialized RX7, Cond.initialized RX5] : List Cond) ++ (([Cond.constant RX7 59 (-1000001), Cond.methodLink RX7 90 arraycopyName, Cond.native arraycopyName, Cond.static arraycopyName, Cond.methodLink RX7 55 yX7_isRow, Cond.instanceMethod yX7_isRow, Cond.methodLink RX7 60 yX7_found, Cond.instanceMethod yX7_found, Cond.fieldLink RX7 333 "WrongWord" "latestFinding" "I", Cond.constant RX7 336 (-1000010), Cond.methodLink RX7 82 yX5_reaches, Cond.instanceMethod yX5_reaches, Cond.selects RX5 yX5_reaches yX5_reaches, Cond.methodLink RX7 68 yX7_unfound, Cond.instanceMethod yX7_unfound] : List Cond) ++ ([] : List Cond))))
def wsX7_copy : List Cond := .code yX7_copy cX7_copy 8 (some .int) :: (wsX7_copy_o ++ (wsX70 ++ (wsX50 ++ (wsX7_isRow ++ (wsX7_found ++ (wsX5_reaches ++ (wsX7_unfound ++ ([] : List Cond))))))))
set_option maxRecDepth 100000 in
theorem itX7_copy_o : ∀ w ∈ wsX7_copy_o, w ∈ lw_tbl := List.forall_mem_append.mpr ⟨fun w h => ch_0 w (mem_r (big := k2_sels lw_privs) _ [0, 1, 2] (by decide +kernel) w h), List.forall_mem_append.mpr ⟨fun w h => ch_1 w (mem_r (big := tables_1_1) _ [236, 226, 224, 10, 1, 8] (by decide +kernel) w h), List.forall_mem_append.mpr ⟨fun w h => ch_2 w (mem_r (big := tables_1_2) _ [32, 67, 69, 68, 28, 30, 33, 35, 4, 37, 66, 55, 56, 42, 44] (by decide +kernel) w h), fun _ h => absurd h List.not_mem_nil⟩⟩⟩
set_option maxRecDepth 100000 in
theorem itX7_copy : ∀ w ∈ wsX7_copy, w ∈ lw_tbl := List.forall_mem_cons.mpr ⟨ch_2 _ (List.mem_of_getElem? (l := tables_1_2) (i := 65) (by decide +kernel)), List.forall_mem_append.mpr ⟨itX7_copy_o, List.forall_mem_append.mpr ⟨itX70, List.forall_mem_append.mpr ⟨itX50, List.forall_mem_append.mpr ⟨itX7_isRow, List.forall_mem_append.mpr ⟨itX7_found, List.forall_mem_append.mpr ⟨itX5_reaches, List.forall_mem_append.mpr ⟨itX7_unfound, fun _ h => absurd h List.not_mem_nil⟩⟩⟩⟩⟩⟩⟩⟩
set_option maxRecDepth 100000 in
theorem gdX7_copy_o : ∀ w ∈ wsX7_copy_o, goodWord w = true := gd_o (by decide +kernel)
set_option maxRecDepth 100000 in
theorem gdX7_copy : ∀ w ∈ wsX7_copy, goodWord w = true := List.forall_mem_cons.mpr ⟨by decide +kernel, List.forall_mem_append.mpr ⟨gdX7_copy_o, List.forall_mem_append.mpr ⟨gdX70, List.forall_mem_append.mpr ⟨gdX50, List.forall_mem_append.mpr ⟨gdX7_isRow, List.forall_mem_append.mpr ⟨gdX7_found, List.forall_mem_append.mpr ⟨gdX5_reaches, List.forall_mem_append.mpr ⟨gdX7_unfound, fun _ h => absurd h List.not_mem_nil⟩⟩⟩⟩⟩⟩⟩⟩
def wsX7_drop_o : List Cond := (([Cond.selects RX7 yX7_isRow yX7_isRow, Cond.selects RX7 yX7_found yX7_found, Cond.selects RX7 yX7_unfound yX7_unfound] : List Cond) ++ (([Cond.fieldLink RX7 11 "WrongWord" "rows" "[LWrongWord$Row;", Cond.fieldLink RX7 78 "WrongWord$Row" "lane" "I", Cond.fieldLink RX7 96 "WrongWord$Row" "size" "I", Cond.initialized RX7] : List Cond) ++ (([Cond.constant RX7 59 (-1000001), Cond.methodLink RX7 55 yX7_isRow, Cond.instanceMethod yX7_isRow, Cond.methodLink RX7 60 yX7_found, Cond.instanceMethod yX7_found, Cond.fieldLink RX7 333 "WrongWord" "latestFinding" "I", Cond.constant RX7 336 (-1000010), Cond.methodLink RX7 68 yX7_unfound, Cond.instanceMethod yX7_unfound] : List Cond) ++ ([] : List Cond))))
def wsX7_drop : List Cond := .code yX7_drop cX7_drop 2 (some .int) :: (wsX7_drop_o ++ (wsX70 ++ (wsX50 ++ (wsX7_isRow ++ (wsX7_found ++ (wsX7_unfound ++ ([] : List Cond)))))))
set_option maxRecDepth 100000 in
theorem itX7_drop_o : ∀ w ∈ wsX7_drop_o, w ∈ lw_tbl := List.forall_mem_append.mpr ⟨fun w h => ch_0 w (mem_r (big := k2_sels lw_privs) _ [0, 1, 2] (by decide +kernel) w h), List.forall_mem_append.mpr ⟨fun w h => ch_1 w (mem_r (big := tables_1_1) _ [236, 226, 228, 1] (by decide +kernel) w h), List.forall_mem_append.mpr ⟨fun w h => ch_2 w (mem_r (big := tables_1_2) _ [32, 28, 30, 33, 35, 4, 37, 42, 44] (by decide +kernel) w h), fun _ h => absurd h List.not_mem_nil⟩⟩⟩
set_option maxRecDepth 100000 in
theorem itX7_drop : ∀ w ∈ wsX7_drop, w ∈ lw_tbl := List.forall_mem_cons.mpr ⟨ch_2 _ (List.mem_of_getElem? (l := tables_1_2) (i := 73) (by decide +kernel)), List.forall_mem_append.mpr ⟨itX7_drop_o, List.forall_mem_append.mpr ⟨itX70, List.forall_mem_append.mpr ⟨itX50, List.forall_mem_append.mpr ⟨itX7_isRow, List.forall_mem_append.mpr ⟨itX7_found, List.forall_mem_append.mpr ⟨itX7_unfound, fun _ h => absurd h List.not_mem_nil⟩⟩⟩⟩⟩⟩⟩
set_option maxRecDepth 100000 in
theorem gdX7_drop_o : ∀ w ∈ wsX7_drop_o, goodWord w = true := gd_o (by decide +kernel)
set_option maxRecDepth 100000 in
theorem gdX7_drop : ∀ w ∈ wsX7_drop, goodWord w = true := List.forall_mem_cons.mpr ⟨by decide +kernel, List.forall_mem_append.mpr ⟨gdX7_drop_o, List.forall_mem_append.mpr ⟨gdX70, List.forall_mem_append.mpr ⟨gdX50, List.forall_mem_append.mpr ⟨gdX7_isRow, List.forall_mem_append.mpr ⟨gdX7_found, List.forall_mem_append.mpr ⟨gdX7_unfound, fun _ h => absurd h List.not_mem_nil⟩⟩⟩⟩⟩⟩⟩
def wsX7_feed_o : List Cond := (([Cond.fieldLink RX7 18 "WrongWord" "tape" "LWrongWord$Tape;", Cond.fieldLink RX7 102 "WrongWord$Tape" "length" "I", Cond.initialized RX6] : List Cond) ++ (([Cond.constant RX7 59 (-1000001), Cond.constant RX7 105 (-1000003), Cond.methodLink RX7 99 yX6_append, Cond.instanceMethod yX6_append, Cond.selects RX6 yX6_append yX6_append] : List Cond) ++ ([] : List Cond)))
def wsX7_feed : List Cond := .code yX7_feed cX7_feed 2 (some .int) :: (wsX7_feed_o ++ (wsX70 ++ (wsX60 ++ (wsX6_append ++ ([] : List Cond)))))
set_option maxRecDepth 100000 in
theorem itX7_feed_o : ∀ w ∈ wsX7_feed_o, w ∈ lw_tbl := List.forall_mem_append.mpr ⟨fun w h => ch_1 w (mem_r (big := tables_1_1) _ [237, 133, 2] (by decide +kernel) w h), List.forall_mem_append.mpr ⟨fun w h => ch_2 w (mem_r (big := tables_1_2) _ [32, 82, 78, 79, 80] (by decide +kernel) w h), fun _ h => absurd h List.not_mem_nil⟩⟩
set_option maxRecDepth 100000 in
theorem itX7_feed : ∀ w ∈ wsX7_feed, w ∈ lw_tbl := List.forall_mem_cons.mpr ⟨ch_2 _ (List.mem_of_getElem? (l := tables_1_2) (i := 77) (by decide +kernel)), List.forall_mem_append.mpr ⟨itX7_feed_o, List.forall_mem_append.mpr ⟨itX70, List.forall_mem_append.mpr ⟨itX60, List.forall_mem_append.mpr ⟨itX6_append, fun _ h => absurd h List.not_mem_nil⟩⟩⟩⟩⟩
set_option maxRecDepth 100000 in
theorem gdX7_feed_o : ∀ w ∈ wsX7_feed_o, goodWord w = true := gd_o (by decide +kernel)
set_option maxRecDepth 100000 in
theorem gdX7_feed : ∀ w ∈ wsX7_feed, goodWord w = true := List.forall_mem_cons.mpr ⟨by decide +kernel, List.forall_mem_append.mpr ⟨gdX7_feed_o, List.forall_mem_append.mpr ⟨gdX70, List.forall_mem_append.mpr ⟨gdX60, List.forall_mem_append.mpr ⟨gdX6_append, fun _ h => absurd h List.not_mem_nil⟩⟩⟩⟩⟩
def wsX7_gate_o : List Cond := (([Cond.fieldLink RX7 18 "WrongWord" "tape" "LWrongWord$Tape;", Cond.fieldLink RX7 102 "WrongWord$Tape" "length" "I", Cond.fieldLink RX7 110 "WrongWord$Tape" "fault" "I", Cond.fieldLink RX7 117 "WrongWord$Tape" "place" "I", Cond.fieldLink RX7 25 "WrongWord" "gate" "LWrongWord$Gate;", Cond.fieldLink RX7 120 "WrongWord$Tape" "draft" "LWrongWord$Gate;", Cond.fieldLink RX7 32 "WrongWord" "acts" "LWrongWord$Acts;", Cond.fieldLink RX7 130 "WrongWord$Gate" "words" "I", Cond.initialized RX0] : List Cond) ++ (([Cond.fieldLink RX7 113 "WrongWord" "latestFault" "I", Cond.constant RX7 116 (-1000100), Cond.methodLink RX7 106 yX6_read, Cond.instanceMethod yX6_read, Cond.selects RX6 yX6_read yX6_read, Cond.methodLink RX7 123 yX2_become, Cond.instanceMethod yX2_become, Cond.selects RX2 yX2_become yX2_become, Cond.methodLink RX7 127 yX0_forget, Cond.instanceMethod yX0_forget, Cond.selects RX0 yX0_forget yX0_forget] : List Cond) ++ ([] : List Cond)))
def wsX7_gate : List Cond := .code yX7_gate cX7_gate 2 (some .int) :: (wsX7_gate_o ++ (wsX70 ++ (wsX60 ++ (wsX20 ++ (wsX40 ++ (wsX00 ++ (wsX6_read ++ (wsX2_become ++ (wsX0_forget ++ ([] : List Cond))))))))))
set_option maxRecDepth 100000 in
theorem itX7_gate_o : ∀ w ∈ wsX7_gate_o, w ∈ lw_tbl := List.forall_mem_append.mpr ⟨fun w h => ch_1 w (mem_r (big := tables_1_1) _ [237, 133, 134, 136, 238, 131, 239, 107, 5] (by decide +kernel) w h), List.forall_mem_append.mpr ⟨fun w h => ch_2 w (mem_r (big := tables_1_2) _ [3, 138, 87, 88, 89, 139, 140, 141, 149, 150, 151] (by decide +kernel) w h), fun _ h => absurd h List.not_mem_nil⟩⟩
set_option maxRecDepth 100000 in
theorem itX7_gate : ∀ w ∈ wsX7_gate, w ∈ lw_tbl := List.forall_mem_cons.mpr ⟨ch_2 _ (List.mem_of_getElem? (l := tables_1_2) (i := 86) (by decide +kernel)), List.forall_mem_append.mpr ⟨itX7_gate_o, List.forall_mem_append.mpr ⟨itX70, List.forall_mem_append.mpr ⟨itX60, List.forall_mem_append.mpr ⟨itX20, List.forall_mem_append.mpr ⟨itX40, List.forall_mem_append.mpr ⟨itX00, List.forall_mem_append.mpr ⟨itX6_read, List.forall_mem_append.mpr ⟨itX2_become, List.forall_mem_append.mpr ⟨itX0_forget, fun _ h => absurd h List.not_mem_nil⟩⟩⟩⟩⟩⟩⟩⟩⟩⟩
set_option maxRecDepth 100000 in
theorem gdX7_gate_o : ∀ w ∈ wsX7_gate_o, goodWord w = true := gd_o (by decide +kernel)
set_option maxRecDepth 100000 in
theorem gdX7_gate : ∀ w ∈ wsX7_gate, goodWord w = true := List.forall_mem_cons.mpr ⟨by decide +kernel, List.forall_mem_append.mpr ⟨gdX7_gate_o, List.forall_mem_append.mpr ⟨gdX70, List.forall_mem_append.mpr ⟨gdX60, List.forall_mem_append.mpr ⟨gdX20, List.forall_mem_append.mpr ⟨gdX40, List.forall_mem_append.mpr ⟨gdX00, List.forall_mem_append.mpr ⟨gdX6_read, List.forall_mem_append.mpr ⟨gdX2_become, List.forall_mem_append.mpr ⟨gdX0_forget, fun _ h => absurd h List.not_mem_nil⟩⟩⟩⟩⟩⟩⟩⟩⟩⟩
def wsX7_fault_o : List Cond := (([Cond.fieldLink RX7 113 "WrongWord" "latestFault" "I"] : List Cond) ++ ([] : List Cond))
def wsX7_fault : List Cond := .code yX7_fault cX7_fault 1 (some .int) :: (wsX7_fault_o ++ (wsX70 ++ ([] : List Cond)))
set_option maxRecDepth 100000 in
theorem itX7_fault_o : ∀ w ∈ wsX7_fault_o, w ∈ lw_tbl := List.forall_mem_append.mpr ⟨fun w h => ch_2 w (mem_r (big := tables_1_2) _ [3] (by decide +kernel) w h), fun _ h => absurd h List.not_mem_nil⟩
set_option maxRecDepth 100000 in
theorem itX7_fault : ∀ w ∈ wsX7_fault, w ∈ lw_tbl := List.forall_mem_cons.mpr ⟨ch_2 _ (List.mem_of_getElem? (l := tables_1_2) (i := 156) (by decide +kernel)), List.forall_mem_append.mpr ⟨itX7_fault_o, List.forall_mem_append.mpr ⟨itX70, fun _ h => absurd h List.not_mem_nil⟩⟩⟩
set_option maxRecDepth 100000 in
theorem gdX7_fault_o : ∀ w ∈ wsX7_fault_o, goodWord w = true := gd_o (by decide +kernel)
set_option maxRecDepth 100000 in
theorem gdX7_fault : ∀ w ∈ wsX7_fault, goodWord w = true := List.forall_mem_cons.mpr ⟨by decide +kernel, List.forall_mem_append.mpr ⟨gdX7_fault_o, List.forall_mem_append.mpr ⟨gdX70, fun _ h => absurd h List.not_mem_nil⟩⟩⟩
def wsX7_noGate_o : List Cond := (([Cond.fieldLink RX7 25 "WrongWord" "gate" "LWrongWord$Gate;", Cond.fieldLink RX7 130 "WrongWord$Gate" "words" "I"] : List Cond) ++ ([] : List Cond))
def wsX7_noGate : List Cond := .code yX7_noGate cX7_noGate 1 (some .boolean) :: (wsX7_noGate_o ++ (wsX70 ++ (wsX20 ++ ([] : List Cond))))
set_option maxRecDepth 100000 in
theorem itX7_noGate_o : ∀ w ∈ wsX7_noGate_o, w ∈ lw_tbl := List.forall_mem_append.mpr ⟨fun w h => ch_1 w (mem_r (big := tables_1_1) _ [238, 107] (by decide +kernel) w h), fun _ h => absurd h List.not_mem_nil⟩
set_option maxRecDepth 100000 in
theorem itX7_noGate : ∀ w ∈ wsX7_noGate, w ∈ lw_tbl := List.forall_mem_cons.mpr ⟨ch_2 _ (List.mem_of_getElem? (l := tables_1_2) (i := 164) (by decide +kernel)), List.forall_mem_append.mpr ⟨itX7_noGate_o, List.forall_mem_append.mpr ⟨itX70, List.forall_mem_append.mpr ⟨itX20, fun _ h => absurd h List.not_mem_nil⟩⟩⟩⟩
set_option maxRecDepth 100000 in
theorem gdX7_noGate_o : ∀ w ∈ wsX7_noGate_o, goodWord w = true := gd_o (by decide +kernel)
set_option maxRecDepth 100000 in
theorem gdX7_noGate : ∀ w ∈ wsX7_noGate, goodWord w = true := List.forall_mem_cons.mpr ⟨by decide +kernel, List.forall_mem_append.mpr ⟨gdX7_noGate_o, List.forall_mem_append.mpr ⟨gdX70, List.forall_mem_append.mpr ⟨gdX20, fun _ h => absurd h List.not_mem_nil⟩⟩⟩⟩
def wsX7_nights_o : List Cond := (([Cond.selects RX7 yX7_noGate yX7_noGate] : List Cond) ++ (([Cond.fieldLink RX7 25 "WrongWord" "gate" "LWrongWord$Gate;", Cond.fieldLink RX7 137 "WrongWord$Gate" "now" "LWrongWord$Moment;", Cond.fieldLink RX7 141 "WrongWord$Moment" "night" "I", Cond.fieldLink RX7 32 "WrongWord" "acts" "LWrongWord$Acts;", Cond.initialized RX7, Cond.fieldLink RX7 130 "WrongWord$Gate" "words" "I", Cond.initialized RX0] : List Cond) ++ (([Cond.constant RX7 136 (-1000002), Cond.constant RX7 59 (-1000001), Cond.constant RX7 105 (-1000003), Cond.methodLink RX7 133 yX7_noGate, Cond.instanceMethod yX7_noGate, Cond.methodLink RX7 146 yX0_keep, Cond.instanceMethod yX0_keep, Cond.selects RX0 yX0_keep yX0_keep, Cond.methodLink RX7 150 yX4_goBy, Cond.instanceMethod yX4_goBy, Cond.selects RX4 yX4_goBy yX4_goBy, Cond.methodLink RX7 153 yX2_secretIn, Cond.instanceMethod yX2_secretIn, Cond.selects RX2 yX2_secretIn yX2_secretIn] : List Cond) ++ ([] : List Cond))))
def wsX7_nights : List Cond := .code yX7_nights cX7_nights 3 (some .int) :: (wsX7_nights_o ++ (wsX70 ++ (wsX20 ++ (wsX40 ++ (wsX00 ++ (wsX7_noGate ++ (wsX0_keep ++ (wsX4_goBy ++ (wsX2_secretIn ++ ([] : List Cond))))))))))
set_option maxRecDepth 100000 in
theorem itX7_nights_o : ∀ w ∈ wsX7_nights_o, w ∈ lw_tbl := List.forall_mem_append.mpr ⟨fun w h => ch_0 w (mem_r (big := k2_sels lw_privs) _ [11] (by decide +kernel) w h), List.forall_mem_append.mpr ⟨fun w h => ch_1 w (mem_r (big := tables_1_1) _ [238, 97, 55, 239, 1, 107, 5] (by decide +kernel) w h), List.forall_mem_append.mpr ⟨fun w h => ch_2 w (mem_r (big := tables_1_2) _ [165, 32, 82, 161, 163, 166, 167, 168, 174, 175, 176, 178, 179, 180] (by decide +kernel) w h), fun _ h => absurd h List.not_mem_nil⟩⟩⟩
set_option maxRecDepth 100000 in
theorem itX7_nights : ∀ w ∈ wsX7_nights, w ∈ lw_tbl := List.forall_mem_cons.mpr ⟨ch_2 _ (List.mem_of_getElem? (l := tables_1_2) (i := 160) (by decide +kernel)), List.forall_mem_append.mpr ⟨itX7_nights_o, List.forall_mem_append.mpr ⟨itX70, List.forall_mem_append.mpr ⟨itX20, List.forall_mem_append.mpr ⟨itX40, List.forall_mem_append.mpr ⟨itX00, List.forall_mem_append.mpr ⟨itX7_noGate, List.forall_mem_append.mpr ⟨itX0_keep, List.forall_mem_append.mpr ⟨itX4_goBy, List.forall_mem_append.mpr ⟨itX2_secretIn, fun _ h => absurd h List.not_mem_nil⟩⟩⟩⟩⟩⟩⟩⟩⟩⟩
set_option maxRecDepth 100000 in
theorem gdX7_nights_o : ∀ w ∈ wsX7_nights_o, goodWord w = true := gd_o (by decide +kernel)
set_option maxRecDepth 100000 in
theorem gdX7_nights : ∀ w ∈ wsX7_nights, goodWord w = true := List.forall_mem_cons.mpr ⟨by decide +kernel, List.forall_mem_append.mpr ⟨gdX7_nights_o, List.forall_mem_append.mpr ⟨gdX70, List.forall_mem_append.mpr ⟨gdX20, List.forall_mem_append.mpr ⟨gdX40, List.forall_mem_append.mpr ⟨gdX00, List.forall_mem_append.mpr ⟨gdX7_noGate, List.forall_mem_append.mpr ⟨gdX0_keep, List.forall_mem_append.mpr ⟨gdX4_goBy, List.forall_mem_append.mpr ⟨gdX2_secretIn, fun _ h => absurd h List.not_mem_nil⟩⟩⟩⟩⟩⟩⟩⟩⟩⟩
def wsX7_isWord_o : List Cond := (([Cond.fieldLink RX7 25 "WrongWord" "gate" "LWrongWord$Gate;", Cond.fieldLink RX7 130 "WrongWord$Gate" "words" "I"] : List Cond) ++ ([] : List Cond))
def wsX7_isWord : List Cond := .code yX7_isWord cX7_isWord 2 (some .boolean) :: (wsX7_isWord_o ++ (wsX70 ++ (wsX20 ++ ([] : List Cond))))
set_option maxRecDepth 100000 in
theorem itX7_isWord_o : ∀ w ∈ wsX7_isWord_o, w ∈ lw_tbl := List.forall_mem_append.mpr ⟨fun w h => ch_1 w (mem_r (big := tables_1_1) _ [238, 107] (by decide +kernel) w h), fun _ h => absurd h List.not_mem_nil⟩
set_option maxRecDepth 100000 in
theorem itX7_isWord : ∀ w ∈ wsX7_isWord, w ∈ lw_tbl := List.forall_mem_cons.mpr ⟨ch_2 _ (List.mem_of_getElem? (l := tables_1_2) (i := 196) (by decide +kernel)), List.forall_mem_append.mpr ⟨itX7_isWord_o, List.forall_mem_append.mpr ⟨itX70, List.forall_mem_append.mpr ⟨itX20, fun _ h => absurd h List.not_mem_nil⟩⟩⟩⟩
set_option maxRecDepth 100000 in
theorem gdX7_isWord_o : ∀ w ∈ wsX7_isWord_o, goodWord w = true := gd_o (by decide +kernel)
set_option maxRecDepth 100000 in
theorem gdX7_isWord : ∀ w ∈ wsX7_isWord, goodWord w = true := List.forall_mem_cons.mpr ⟨by decide +kernel, List.forall_mem_append.mpr ⟨gdX7_isWord_o, List.forall_mem_append.mpr ⟨gdX70, List.forall_mem_append.mpr ⟨gdX20, fun _ h => absurd h List.not_mem_nil⟩⟩⟩⟩
def wsX7_isHour_o : List Cond := ([] : List Cond)
def wsX7_isHour : List Cond := .code yX7_isHour cX7_isHour 2 (some .boolean) :: (wsX7_isHour_o ++ ([] : List Cond))
set_option maxRecDepth 100000 in
theorem itX7_isHour_o : ∀ w ∈ wsX7_isHour_o, w ∈ lw_tbl := fun _ h => absurd h List.not_mem_nil
set_option maxRecDepth 100000 in
theorem itX7_isHour : ∀ w ∈ wsX7_isHour, w ∈ lw_tbl := List.forall_mem_cons.mpr ⟨ch_2 _ (List.mem_of_getElem? (l := tables_1_2) (i := 200) (by decide +kernel)), List.forall_mem_append.mpr ⟨itX7_isHour_o, fun _ h => absurd h List.not_mem_nil⟩⟩
set_option maxRecDepth 100000 in
theorem gdX7_isHour_o : ∀ w ∈ wsX7_isHour_o, goodWord w = true := gd_o (by decide +kernel)
set_option maxRecDepth 100000 in
theorem gdX7_isHour : ∀ w ∈ wsX7_isHour, goodWord w = true := List.forall_mem_cons.mpr ⟨by decide +kernel, List.forall_mem_append.mpr ⟨gdX7_isHour_o, fun _ h => absurd h List.not_mem_nil⟩⟩
def wsX7_say_o : List Cond := (([Cond.selects RX7 yX7_isWord yX7_isWord, Cond.selects RX7 yX7_isHour yX7_isHour] : List Cond) ++ (([Cond.fieldLink RX7 25 "WrongWord" "gate" "LWrongWord$Gate;", Cond.fieldLink RX7 137 "WrongWord$Gate" "now" "LWrongWord$Moment;", Cond.fieldLink RX7 162 "WrongWord$Moment" "tries" "I", Cond.fieldLink RX7 141 "WrongWord$Moment" "night" "I", Cond.fieldLink RX7 32 "WrongWord" "acts" "LWrongWord$Acts;", Cond.initialized RX7, Cond.fieldLink RX7 130 "WrongWord$Gate" "words" "I", Cond.initialized RX0] : List Cond) ++ (([Cond.constant RX7 59 (-1000001), Cond.constant RX7 105 (-1000003), Cond.constant RX7 175 (-1000000), Cond.methodLink RX7 156 yX7_isWord, Cond.instanceMethod yX7_isWord, Cond.methodLink RX7 159 yX7_isHour, Cond.instanceMethod yX7_isHour, Cond.methodLink RX7 165 yX2_guardOn, Cond.instanceMethod yX2_guardOn, Cond.selects RX2 yX2_guardOn yX2_guardOn, Cond.methodLink RX7 168 yX2_catches, Cond.instanceMethod yX2_catches, Cond.selects RX2 yX2_catches yX2_catches, Cond.methodLink RX2 74 yX2_guardOn, Cond.methodLink RX2 77 yX2_isThere, Cond.instanceMethod yX2_isThere, Cond.selects RX2 yX2_isThere yX2_isThere, Cond.methodLink RX7 146 yX0_keep, Cond.instanceMethod yX0_keep, Cond.selects RX0 yX0_keep yX0_keep, Cond.methodLink RX7 172 yX2_isThere, Cond.methodLink RX7 176 yX4_addTry, Cond.instanceMethod yX4_addTry, Cond.selects RX4 yX4_addTry yX4_addTry, Cond.static yX7_bit, Cond.methodLink RX7 180 yX7_bit] : List Cond) ++ ([] : List Cond))))
def wsX7_say : List Cond := .code yX7_say cX7_say 5 (some .int) :: (wsX7_say_o ++ (wsX70 ++ (wsX20 ++ (wsX40 ++ (wsX00 ++ (wsX7_isWord ++ (wsX7_isHour ++ (wsX2_guardOn ++ (wsX2_catches ++ (wsX0_keep ++ (wsX2_isThere ++ (wsX4_addTry ++ (wsX7_bit ++ ([] : List Cond))))))))))))))
set_option maxRecDepth 100000 in
theorem itX7_say_o : ∀ w ∈ wsX7_say_o, w ∈ lw_tbl := List.forall_mem_append.mpr ⟨fun w h => ch_0 w (mem_r (big := k2_sels lw_privs) _ [12, 13] (by decide +kernel) w h), List.forall_mem_append.mpr ⟨fun w h => ch_1 w (mem_r (big := tables_1_1) _ [238, 97, 65, 55, 239, 1, 107, 5] (by decide +kernel) w h), List.forall_mem_append.mpr ⟨fun w h => ch_2 w (mem_r (big := tables_1_2) _ [32, 82, 229, 193, 195, 197, 199, 201, 202, 203, 205, 206, 207, 214, 215, 216, 217, 166, 167, 168, 228, 230, 231, 232, 235, 237] (by decide +kernel) w h), fun _ h => absurd h List.not_mem_nil⟩⟩⟩
set_option maxRecDepth 100000 in
theorem itX7_say : ∀ w ∈ wsX7_say, w ∈ lw_tbl := List.forall_mem_cons.mpr ⟨ch_2 _ (List.mem_of_getElem? (l := tables_1_2) (i := 192) (by decide +kernel)), List.forall_mem_append.mpr ⟨itX7_say_o, List.forall_mem_append.mpr ⟨itX70, List.forall_mem_append.mpr ⟨itX20, List.forall_mem_append.mpr ⟨itX40, List.forall_mem_append.mpr ⟨itX00, List.forall_mem_append.mpr ⟨itX7_isWord, List.forall_mem_append.mpr ⟨itX7_isHour, List.forall_mem_append.mpr ⟨itX2_guardOn, List.forall_mem_append.mpr ⟨itX2_catches, List.forall_mem_append.mpr ⟨itX0_keep, List.forall_mem_append.mpr ⟨itX2_isThere, List.forall_mem_append.mpr ⟨itX4_addTry, List.forall_mem_append.mpr ⟨itX7_bit, fun _ h => absurd h List.not_mem_nil⟩⟩⟩⟩⟩⟩⟩⟩⟩⟩⟩⟩⟩⟩
set_option maxRecDepth 100000 in
theorem gdX7_say_o : ∀ w ∈ wsX7_say_o, goodWord w = true := gd_o (by decide +kernel)
set_option maxRecDepth 100000 in
theorem gdX7_say : ∀ w ∈ wsX7_say, goodWord w = true := List.forall_mem_cons.mpr ⟨by decide +kernel, List.forall_mem_append.mpr ⟨gdX7_say_o, List.forall_mem_append.mpr ⟨gdX70, List.forall_mem_append.mpr ⟨gdX20, List.forall_mem_append.mpr ⟨gdX40, List.forall_mem_append.mpr ⟨gdX00, List.forall_mem_append.mpr ⟨gdX7_isWord, List.forall_mem_append.mpr ⟨gdX7_isHour, List.forall_mem_append.mpr ⟨gdX2_guardOn, List.forall_mem_append.mpr ⟨gdX2_catches, List.forall_mem_append.mpr ⟨gdX0_keep, List.forall_mem_append.mpr ⟨gdX2_isThere, List.forall_mem_append.mpr ⟨gdX4_addTry, List.forall_mem_append.mpr ⟨gdX7_bit, fun _ h => absurd h List.not_mem_nil⟩⟩⟩⟩⟩⟩⟩⟩⟩⟩⟩⟩⟩⟩
def wsX7_start_o : List Cond := (([Cond.selects RX7 yX7_noGate yX7_noGate] : List Cond) ++ (([Cond.fieldLink RX7 25 "WrongWord" "gate" "LWrongWord$Gate;", Cond.fieldLink RX7 137 "WrongWord$Gate" "now" "LWrongWord$Moment;", Cond.fieldLink RX7 184 "WrongWord$Moment" "start" "I", Cond.fieldLink RX7 32 "WrongWord" "acts" "LWrongWord$Acts;", Cond.initialized RX7, Cond.fieldLink RX7 130 "WrongWord$Gate" "words" "I", Cond.initialized RX0] : List Cond) ++ (([Cond.constant RX7 136 (-1000002), Cond.constant RX7 59 (-1000001), Cond.methodLink RX7 133 yX7_noGate, Cond.instanceMethod yX7_noGate, Cond.methodLink RX7 146 yX0_keep, Cond.instanceMethod yX0_keep, Cond.selects RX0 yX0_keep yX0_keep] : List Cond) ++ ([] : List Cond))))
def wsX7_start : List Cond := .code yX7_start cX7_start 3 (some .int) :: (wsX7_start_o ++ (wsX70 ++ (wsX20 ++ (wsX40 ++ (wsX00 ++ (wsX7_noGate ++ (wsX0_keep ++ ([] : List Cond))))))))
set_option maxRecDepth 100000 in
theorem itX7_start_o : ∀ w ∈ wsX7_start_o, w ∈ lw_tbl := List.forall_mem_append.mpr ⟨fun w h => ch_0 w (mem_r (big := k2_sels lw_privs) _ [11] (by decide +kernel) w h), List.forall_mem_append.mpr ⟨fun w h => ch_1 w (mem_r (big := tables_1_1) _ [238, 97, 59, 239, 1, 107, 5] (by decide +kernel) w h), List.forall_mem_append.mpr ⟨fun w h => ch_2 w (mem_r (big := tables_1_2) _ [165, 32, 161, 163, 166, 167, 168] (by decide +kernel) w h), fun _ h => absurd h List.not_mem_nil⟩⟩⟩
set_option maxRecDepth 100000 in
theorem itX7_start : ∀ w ∈ wsX7_start, w ∈ lw_tbl := List.forall_mem_cons.mpr ⟨ch_3 _ (List.mem_of_getElem? (l := tables_1_3) (i := 1) (by decide +kernel)), List.forall_mem_append.mpr ⟨itX7_start_o, List.forall_mem_append.mpr ⟨itX70, List.forall_mem_append.mpr ⟨itX20, List.forall_mem_append.mpr ⟨itX40, List.forall_mem_append.mpr ⟨itX00, List.forall_mem_append.mpr ⟨itX7_noGate, List.forall_mem_append.mpr ⟨itX0_keep, fun _ h => absurd h List.not_mem_nil⟩⟩⟩⟩⟩⟩⟩⟩
set_option maxRecDepth 100000 in
theorem gdX7_start_o : ∀ w ∈ wsX7_start_o, goodWord w = true := gd_o (by decide +kernel)
set_option maxRecDepth 100000 in
theorem gdX7_start : ∀ w ∈ wsX7_start, goodWord w = true := List.forall_mem_cons.mpr ⟨by decide +kernel, List.forall_mem_append.mpr ⟨gdX7_start_o, List.forall_mem_append.mpr ⟨gdX70, List.forall_mem_append.mpr ⟨gdX20, List.forall_mem_append.mpr ⟨gdX40, List.forall_mem_append.mpr ⟨gdX00, List.forall_mem_append.mpr ⟨gdX7_noGate, List.forall_mem_append.mpr ⟨gdX0_keep, fun _ h => absurd h List.not_mem_nil⟩⟩⟩⟩⟩⟩⟩⟩
def wsX7_isGuard_o : List Cond := (([Cond.fieldLink RX7 25 "WrongWord" "gate" "LWrongWord$Gate;", Cond.fieldLink RX7 327 "WrongWord$Gate" "guards" "I"] : List Cond) ++ ([] : List Cond))
def wsX7_isGuard : List Cond := .code yX7_isGuard cX7_isGuard 2 (some .boolean) :: (wsX7_isGuard_o ++ (wsX70 ++ (wsX20 ++ ([] : List Cond))))
set_option maxRecDepth 100000 in
theorem itX7_isGuard_o : ∀ w ∈ wsX7_isGuard_o, w ∈ lw_tbl := List.forall_mem_append.mpr ⟨fun w h => ch_1 w (mem_r (big := tables_1_1) _ [238, 111] (by decide +kernel) w h), fun _ h => absurd h List.not_mem_nil⟩
set_option maxRecDepth 100000 in
theorem itX7_isGuard : ∀ w ∈ wsX7_isGuard, w ∈ lw_tbl := List.forall_mem_cons.mpr ⟨ch_3 _ (List.mem_of_getElem? (l := tables_1_3) (i := 9) (by decide +kernel)), List.forall_mem_append.mpr ⟨itX7_isGuard_o, List.forall_mem_append.mpr ⟨itX70, List.forall_mem_append.mpr ⟨itX20, fun _ h => absurd h List.not_mem_nil⟩⟩⟩⟩
set_option maxRecDepth 100000 in
theorem gdX7_isGuard_o : ∀ w ∈ wsX7_isGuard_o, goodWord w = true := gd_o (by decide +kernel)
set_option maxRecDepth 100000 in
theorem gdX7_isGuard : ∀ w ∈ wsX7_isGuard, goodWord w = true := List.forall_mem_cons.mpr ⟨by decide +kernel, List.forall_mem_append.mpr ⟨gdX7_isGuard_o, List.forall_mem_append.mpr ⟨gdX70, List.forall_mem_append.mpr ⟨gdX20, fun _ h => absurd h List.not_mem_nil⟩⟩⟩⟩
def wsX7_dismiss_o : List Cond := (([Cond.selects RX7 yX7_isGuard yX7_isGuard] : List Cond) ++ (([Cond.fieldLink RX7 25 "WrongWord" "gate" "LWrongWord$Gate;", Cond.fieldLink RX7 32 "WrongWord" "acts" "LWrongWord$Acts;", Cond.fieldLink RX7 137 "WrongWord$Gate" "now" "LWrongWord$Moment;", Cond.fieldLink RX7 190 "WrongWord$Moment" "there" "I", Cond.initialized RX7, Cond.fieldLink RX7 327 "WrongWord$Gate" "guards" "I", Cond.initialized RX2, Cond.initialized RX0] : List Cond) ++ (([Cond.constant RX7 59 (-1000001), Cond.constant RX7 136 (-1000002), Cond.methodLink RX7 172 yX2_isThere, Cond.instanceMethod yX2_isThere, Cond.selects RX2 yX2_isThere yX2_isThere, Cond.methodLink RX7 180 yX7_bit, Cond.static yX7_bit, Cond.methodLink RX7 146 yX0_keep, Cond.instanceMethod yX0_keep, Cond.selects RX0 yX0_keep yX0_keep] : List Cond) ++ (([Cond.methodLink RX7 187 yX7_isGuard, Cond.instanceMethod yX7_isGuard] : List Cond) ++ ([] : List Cond)))))
def wsX7_dismiss : List Cond := .code yX7_dismiss cX7_dismiss 3 (some .int) :: (wsX7_dismiss_o ++ (wsX70 ++ (wsX20 ++ (wsX40 ++ (wsX00 ++ (wsX7_isGuard ++ (wsX2_isThere ++ (wsX7_bit ++ (wsX0_keep ++ ([] : List Cond))))))))))
set_option maxRecDepth 100000 in
theorem itX7_dismiss_o : ∀ w ∈ wsX7_dismiss_o, w ∈ lw_tbl := List.forall_mem_append.mpr ⟨fun w h => ch_0 w (mem_r (big := k2_sels lw_privs) _ [14] (by decide +kernel) w h), List.forall_mem_append.mpr ⟨fun w h => ch_1 w (mem_r (big := tables_1_1) _ [238, 239, 97, 62, 1, 111, 3, 5] (by decide +kernel) w h), List.forall_mem_append.mpr ⟨fun w h => ch_2 w (mem_r (big := tables_1_2) _ [32, 165, 228, 216, 217, 237, 235, 166, 167, 168] (by decide +kernel) w h), List.forall_mem_append.mpr ⟨fun w h => ch_3 w (mem_r (big := tables_1_3) _ [6, 8] (by decide +kernel) w h), fun _ h => absurd h List.not_mem_nil⟩⟩⟩⟩
set_option maxRecDepth 100000 in
theorem itX7_dismiss : ∀ w ∈ wsX7_dismiss, w ∈ lw_tbl := List.forall_mem_cons.mpr ⟨ch_3 _ (List.mem_of_getElem? (l := tables_1_3) (i := 5) (by decide +kernel)), List.forall_mem_append.mpr ⟨itX7_dismiss_o, List.forall_mem_append.mpr ⟨itX70, List.forall_mem_append.mpr ⟨itX20, List.forall_mem_append.mpr ⟨itX40, List.forall_mem_append.mpr ⟨itX00, List.forall_mem_append.mpr ⟨itX7_isGuard, List.forall_mem_append.mpr ⟨itX2_isThere, List.forall_mem_append.mpr ⟨itX7_bit, List.forall_mem_append.mpr ⟨itX0_keep, fun _ h => absurd h List.not_mem_nil⟩⟩⟩⟩⟩⟩⟩⟩⟩⟩
set_option maxRecDepth 100000 in
theorem gdX7_dismiss_o : ∀ w ∈ wsX7_dismiss_o, goodWord w = true := gd_o (by decide +kernel)
set_option maxRecDepth 100000 in
theorem gdX7_dismiss : ∀ w ∈ wsX7_dismiss, goodWord w = true := List.forall_mem_cons.mpr ⟨by decide +kernel, List.forall_mem_append.mpr ⟨gdX7_dismiss_o, List.forall_mem_append.mpr ⟨gdX70, List.forall_mem_append.mpr ⟨gdX20, List.forall_mem_append.mpr ⟨gdX40, List.forall_mem_append.mpr ⟨gdX00, List.forall_mem_append.mpr ⟨gdX7_isGuard, List.forall_mem_append.mpr ⟨gdX2_isThere, List.forall_mem_append.mpr ⟨gdX7_bit, List.forall_mem_append.mpr ⟨gdX0_keep, fun _ h => absurd h List.not_mem_nil⟩⟩⟩⟩⟩⟩⟩⟩⟩⟩
def wsX7_undo_o : List Cond := (([Cond.fieldLink RX7 32 "WrongWord" "acts" "LWrongWord$Acts;", Cond.fieldLink RX7 25 "WrongWord" "gate" "LWrongWord$Gate;", Cond.fieldLink RX7 137 "WrongWord$Gate" "now" "LWrongWord$Moment;", Cond.fieldLink RX7 197 "WrongWord$Acts" "kept" "I", Cond.initialized RX0] : List Cond) ++ (([Cond.constant RX7 136 (-1000002)] : List Cond) ++ (([Cond.methodLink RX7 193 yX0_takeBack, Cond.instanceMethod yX0_takeBack, Cond.selects RX0 yX0_takeBack yX0_takeBack] : List Cond) ++ ([] : List Cond))))
def wsX7_undo : List Cond := .code yX7_undo cX7_undo 1 (some .int) :: (wsX7_undo_o ++ (wsX70 ++ (wsX20 ++ (wsX00 ++ (wsX40 ++ (wsX0_takeBack ++ ([] : List Cond)))))))
set_option maxRecDepth 100000 in
theorem itX7_undo_o : ∀ w ∈ wsX7_undo_o, w ∈ lw_tbl := List.forall_mem_append.mpr ⟨fun w h => ch_1 w (mem_r (big := tables_1_1) _ [239, 238, 97, 169, 5] (by decide +kernel) w h), List.forall_mem_append.mpr ⟨fun w h => ch_2 w (mem_r (big := tables_1_2) _ [165] (by decide +kernel) w h), List.forall_mem_append.mpr ⟨fun w h => ch_3 w (mem_r (big := tables_1_3) _ [14, 15, 16] (by decide +kernel) w h), fun _ h => absurd h List.not_mem_nil⟩⟩⟩
set_option maxRecDepth 100000 in
theorem itX7_undo : ∀ w ∈ wsX7_undo, w ∈ lw_tbl := List.forall_mem_cons.mpr ⟨ch_3 _ (List.mem_of_getElem? (l := tables_1_3) (i := 13) (by decide +kernel)), List.forall_mem_append.mpr ⟨itX7_undo_o, List.forall_mem_append.mpr ⟨itX70, List.forall_mem_append.mpr ⟨itX20, List.forall_mem_append.mpr ⟨itX00, List.forall_mem_append.mpr ⟨itX40, List.forall_mem_append.mpr ⟨itX0_takeBack, fun _ h => absurd h List.not_mem_nil⟩⟩⟩⟩⟩⟩⟩
set_option maxRecDepth 100000 in
theorem gdX7_undo_o : ∀ w ∈ wsX7_undo_o, goodWord w = true := gd_o (by decide +kernel)
set_option maxRecDepth 100000 in
theorem gdX7_undo : ∀ w ∈ wsX7_undo, goodWord w = true := List.forall_mem_cons.mpr ⟨by decide +kernel, List.forall_mem_append.mpr ⟨gdX7_undo_o, List.forall_mem_append.mpr ⟨gdX70, List.forall_mem_append.mpr ⟨gdX20, List.forall_mem_append.mpr ⟨gdX00, List.forall_mem_append.mpr ⟨gdX40, List.forall_mem_append.mpr ⟨gdX0_takeBack, fun _ h => absurd h List.not_mem_nil⟩⟩⟩⟩⟩⟩⟩
def wsX7_letter_o : List Cond := (([Cond.selects RX7 yX7_isWord yX7_isWord] : List Cond) ++ (([Cond.fieldLink RX7 25 "WrongWord" "gate" "LWrongWord$Gate;", Cond.fieldLink RX7 200 "WrongWord$Gate" "letters" "[I", Cond.initialized RX7, Cond.fieldLink RX7 130 "WrongWord$Gate" "words" "I"] : List Cond) ++ (([Cond.constant RX7 59 (-1000001), Cond.methodLink RX7 156 yX7_isWord, Cond.instanceMethod yX7_isWord] : List Cond) ++ ([] : List Cond))))
def wsX7_letter : List Cond := .code yX7_letter cX7_letter 3 (some .int) :: (wsX7_letter_o ++ (wsX70 ++ (wsX20 ++ (wsX7_isWord ++ ([] : List Cond)))))
set_option maxRecDepth 100000 in
theorem itX7_letter_o : ∀ w ∈ wsX7_letter_o, w ∈ lw_tbl := List.forall_mem_append.mpr ⟨fun w h => ch_0 w (mem_r (big := k2_sels lw_privs) _ [12] (by decide +kernel) w h), List.forall_mem_append.mpr ⟨fun w h => ch_1 w (mem_r (big := tables_1_1) _ [238, 86, 1, 107] (by decide +kernel) w h), List.forall_mem_append.mpr ⟨fun w h => ch_2 w (mem_r (big := tables_1_2) _ [32, 193, 195] (by decide +kernel) w h), fun _ h => absurd h List.not_mem_nil⟩⟩⟩
set_option maxRecDepth 100000 in
theorem itX7_letter : ∀ w ∈ wsX7_letter, w ∈ lw_tbl := List.forall_mem_cons.mpr ⟨ch_3 _ (List.mem_of_getElem? (l := tables_1_3) (i := 21) (by decide +kernel)), List.forall_mem_append.mpr ⟨itX7_letter_o, List.forall_mem_append.mpr ⟨itX70, List.forall_mem_append.mpr ⟨itX20, List.forall_mem_append.mpr ⟨itX7_isWord, fun _ h => absurd h List.not_mem_nil⟩⟩⟩⟩⟩
set_option maxRecDepth 100000 in
theorem gdX7_letter_o : ∀ w ∈ wsX7_letter_o, goodWord w = true := gd_o (by decide +kernel)
set_option maxRecDepth 100000 in
theorem gdX7_letter : ∀ w ∈ wsX7_letter, goodWord w = true := List.forall_mem_cons.mpr ⟨by decide +kernel, List.forall_mem_append.mpr ⟨gdX7_letter_o, List.forall_mem_append.mpr ⟨gdX70, List.forall_mem_append.mpr ⟨gdX20, List.forall_mem_append.mpr ⟨gdX7_isWord, fun _ h => absurd h List.not_mem_nil⟩⟩⟩⟩⟩
def wsX7_like_o : List Cond := (([Cond.selects RX7 yX7_isWord yX7_isWord] : List Cond) ++ (([Cond.fieldLink RX7 25 "WrongWord" "gate" "LWrongWord$Gate;", Cond.initialized RX7, Cond.fieldLink RX7 130 "WrongWord$Gate" "words" "I", Cond.initialized RX2] : List Cond) ++ (([Cond.constant RX7 59 (-1000001), Cond.methodLink RX7 156 yX7_isWord, Cond.instanceMethod yX7_isWord, Cond.instanceMethod yX2_distance, Cond.selects RX2 yX2_distance yX2_distance, Cond.instanceMethod yX2_lips, Cond.selects RX2 yX2_lips yX2_lips] : List Cond) ++ (([Cond.methodLink RX7 203 yX2_distance, Cond.methodLink RX7 206 yX2_lips] : List Cond) ++ ([] : List Cond)))))
def wsX7_like : List Cond := .code yX7_like cX7_like 4 (some .int) :: (wsX7_like_o ++ (wsX70 ++ (wsX20 ++ (wsX7_isWord ++ (wsX2_distance ++ (wsX2_lips ++ ([] : List Cond)))))))
set_option maxRecDepth 100000 in
theorem itX7_like_o : ∀ w ∈ wsX7_like_o, w ∈ lw_tbl := List.forall_mem_append.mpr ⟨fun w h => ch_0 w (mem_r (big := k2_sels lw_privs) _ [12] (by decide +kernel) w h), List.forall_mem_append.mpr ⟨fun w h => ch_1 w (mem_r (big := tables_1_1) _ [238, 1, 107, 3] (by decide +kernel) w h), List.forall_mem_append.mpr ⟨fun w h => ch_2 w (mem_r (big := tables_1_2) _ [32, 193, 195, 123, 124, 225, 226] (by decide +kernel) w h), List.forall_mem_append.mpr ⟨fun w h => ch_3 w (mem_r (big := tables_1_3) _ [26, 27] (by decide +kernel) w h), fun _ h => absurd h List.not_mem_nil⟩⟩⟩⟩
set_option maxRecDepth 100000 in
theorem itX7_like : ∀ w ∈ wsX7_like, w ∈ lw_tbl := List.forall_mem_cons.mpr ⟨ch_3 _ (List.mem_of_getElem? (l := tables_1_3) (i := 25) (by decide +kernel)), List.forall_mem_append.mpr ⟨itX7_like_o, List.forall_mem_append.mpr ⟨itX70, List.forall_mem_append.mpr ⟨itX20, List.forall_mem_append.mpr ⟨itX7_isWord, List.forall_mem_append.mpr ⟨itX2_distance, List.forall_mem_append.mpr ⟨itX2_lips, fun _ h => absurd h List.not_mem_nil⟩⟩⟩⟩⟩⟩⟩
set_option maxRecDepth 100000 in
theorem gdX7_like_o : ∀ w ∈ wsX7_like_o, goodWord w = true := gd_o (by decide +kernel)
set_option maxRecDepth 100000 in
theorem gdX7_like : ∀ w ∈ wsX7_like, goodWord w = true := List.forall_mem_cons.mpr ⟨by decide +kernel, List.forall_mem_append.mpr ⟨gdX7_like_o, List.forall_mem_append.mpr ⟨gdX70, List.forall_mem_append.mpr ⟨gdX20, List.forall_mem_append.mpr ⟨gdX7_isWord, List.forall_mem_append.mpr ⟨gdX2_distance, List.forall_mem_append.mpr ⟨gdX2_lips, fun _ h => absurd h List.not_mem_nil⟩⟩⟩⟩⟩⟩⟩
def wsX7_guard_o : List Cond := (([Cond.selects RX7 yX7_isGuard yX7_isGuard] : List Cond) ++ (([Cond.fieldLink RX7 25 "WrongWord" "gate" "LWrongWord$Gate;", Cond.fieldLink RX7 209 "WrongWord$Gate" "fees" "[I", Cond.fieldLink RX7 137 "WrongWord$Gate" "now" "LWrongWord$Moment;", Cond.fieldLink RX7 212 "WrongWord$Moment" "took" "[I", Cond.initialized RX7, Cond.fieldLink RX7 327 "WrongWord$Gate" "guards" "I"] : List Cond) ++ (([Cond.constant RX7 59 (-1000001), Cond.methodLink RX7 172 yX2_isThere, Cond.instanceMethod yX2_isThere, Cond.selects RX2 yX2_isThere yX2_isThere, Cond.methodLink RX7 180 yX7_bit, Cond.static yX7_bit] : List Cond) ++ (([Cond.methodLink RX7 187 yX7_isGuard, Cond.instanceMethod yX7_isGuard, Cond.methodLink RX7 215 yX2_hoursOf, Cond.instanceMethod yX2_hoursOf, Cond.selects RX2 yX2_hoursOf yX2_hoursOf] : List Cond) ++ ([] : List Cond)))))
def wsX7_guard : List Cond := .code yX7_guard cX7_guard 3 (some .int) :: (wsX7_guard_o ++ (wsX70 ++ (wsX20 ++ (wsX40 ++ (wsX7_isGuard ++ (wsX2_isThere ++ (wsX7_bit ++ (wsX2_hoursOf ++ ([] : List Cond)))))))))
set_option maxRecDepth 100000 in
theorem itX7_guard_o : ∀ w ∈ wsX7_guard_o, w ∈ lw_tbl := List.forall_mem_append.mpr ⟨fun w h => ch_0 w (mem_r (big := k2_sels lw_privs) _ [14] (by decide +kernel) w h), List.forall_mem_append.mpr ⟨fun w h => ch_1 w (mem_r (big := tables_1_1) _ [238, 93, 97, 42, 1, 111] (by decide +kernel) w h), List.forall_mem_append.mpr ⟨fun w h => ch_2 w (mem_r (big := tables_1_2) _ [32, 228, 216, 217, 237, 235] (by decide +kernel) w h), List.forall_mem_append.mpr ⟨fun w h => ch_3 w (mem_r (big := tables_1_3) _ [6, 8, 32, 33, 34] (by decide +kernel) w h), fun _ h => absurd h List.not_mem_nil⟩⟩⟩⟩
set_option maxRecDepth 100000 in
theorem itX7_guard : ∀ w ∈ wsX7_guard, w ∈ lw_tbl := List.forall_mem_cons.mpr ⟨ch_3 _ (List.mem_of_getElem? (l := tables_1_3) (i := 31) (by decide +kernel)), List.forall_mem_append.mpr ⟨itX7_guard_o, List.forall_mem_append.mpr ⟨itX70, List.forall_mem_append.mpr ⟨itX20, List.forall_mem_append.mpr ⟨itX40, List.forall_mem_append.mpr ⟨itX7_isGuard, List.forall_mem_append.mpr ⟨itX2_isThere, List.forall_mem_append.mpr ⟨itX7_bit, List.forall_mem_append.mpr ⟨itX2_hoursOf, fun _ h => absurd h List.not_mem_nil⟩⟩⟩⟩⟩⟩⟩⟩⟩
set_option maxRecDepth 100000 in
theorem gdX7_guard_o : ∀ w ∈ wsX7_guard_o, goodWord w = true := gd_o (by decide +kernel)
set_option maxRecDepth 100000 in
theorem gdX7_guard : ∀ w ∈ wsX7_guard, goodWord w = true := List.forall_mem_cons.mpr ⟨by decide +kernel, List.forall_mem_append.mpr ⟨gdX7_guard_o, List.forall_mem_append.mpr ⟨gdX70, List.forall_mem_append.mpr ⟨gdX20, List.forall_mem_append.mpr ⟨gdX40, List.forall_mem_append.mpr ⟨gdX7_isGuard, List.forall_mem_append.mpr ⟨gdX2_isThere, List.forall_mem_append.mpr ⟨gdX7_bit, List.forall_mem_append.mpr ⟨gdX2_hoursOf, fun _ h => absurd h List.not_mem_nil⟩⟩⟩⟩⟩⟩⟩⟩⟩
def wsX7_tried_o : List Cond := (([Cond.fieldLink RX7 25 "WrongWord" "gate" "LWrongWord$Gate;", Cond.fieldLink RX7 137 "WrongWord$Gate" "now" "LWrongWord$Moment;", Cond.fieldLink RX7 162 "WrongWord$Moment" "tries" "I", Cond.fieldLink RX7 218 "WrongWord$Moment" "triedWord" "[I", Cond.fieldLink RX7 221 "WrongWord$Moment" "triedGuard" "[I", Cond.fieldLink RX7 224 "WrongWord$Moment" "triedTaken" "[I"] : List Cond) ++ (([Cond.constant RX7 59 (-1000001)] : List Cond) ++ ([] : List Cond)))
def wsX7_tried : List Cond := .code yX7_tried cX7_tried 3 (some .int) :: (wsX7_tried_o ++ (wsX70 ++ (wsX20 ++ (wsX40 ++ ([] : List Cond)))))
set_option maxRecDepth 100000 in
theorem itX7_tried_o : ∀ w ∈ wsX7_tried_o, w ∈ lw_tbl := List.forall_mem_append.mpr ⟨fun w h => ch_1 w (mem_r (big := tables_1_1) _ [238, 97, 65, 45, 48, 51] (by decide +kernel) w h), List.forall_mem_append.mpr ⟨fun w h => ch_2 w (mem_r (big := tables_1_2) _ [32] (by decide +kernel) w h), fun _ h => absurd h List.not_mem_nil⟩⟩
set_option maxRecDepth 100000 in
theorem itX7_tried : ∀ w ∈ wsX7_tried, w ∈ lw_tbl := List.forall_mem_cons.mpr ⟨ch_3 _ (List.mem_of_getElem? (l := tables_1_3) (i := 40) (by decide +kernel)), List.forall_mem_append.mpr ⟨itX7_tried_o, List.forall_mem_append.mpr ⟨itX70, List.forall_mem_append.mpr ⟨itX20, List.forall_mem_append.mpr ⟨itX40, fun _ h => absurd h List.not_mem_nil⟩⟩⟩⟩⟩
set_option maxRecDepth 100000 in
theorem gdX7_tried_o : ∀ w ∈ wsX7_tried_o, goodWord w = true := gd_o (by decide +kernel)
set_option maxRecDepth 100000 in
theorem gdX7_tried : ∀ w ∈ wsX7_tried, goodWord w = true := List.forall_mem_cons.mpr ⟨by decide +kernel, List.forall_mem_append.mpr ⟨gdX7_tried_o, List.forall_mem_append.mpr ⟨gdX70, List.forall_mem_append.mpr ⟨gdX20, List.forall_mem_append.mpr ⟨gdX40, fun _ h => absurd h List.not_mem_nil⟩⟩⟩⟩⟩
def wsX7_isAhead_o : List Cond := ([] : List Cond)
def wsX7_isAhead : List Cond := .code yX7_isAhead cX7_isAhead 2 (some .boolean) :: (wsX7_isAhead_o ++ ([] : List Cond))
set_option maxRecDepth 100000 in
theorem itX7_isAhead_o : ∀ w ∈ wsX7_isAhead_o, w ∈ lw_tbl := fun _ h => absurd h List.not_mem_nil
set_option maxRecDepth 100000 in
theorem itX7_isAhead : ∀ w ∈ wsX7_isAhead, w ∈ lw_tbl := List.forall_mem_cons.mpr ⟨ch_3 _ (List.mem_of_getElem? (l := tables_1_3) (i := 48) (by decide +kernel)), List.forall_mem_append.mpr ⟨itX7_isAhead_o, fun _ h => absurd h List.not_mem_nil⟩⟩
set_option maxRecDepth 100000 in
theorem gdX7_isAhead_o : ∀ w ∈ wsX7_isAhead_o, goodWord w = true := gd_o (by decide +kernel)
set_option maxRecDepth 100000 in
theorem gdX7_isAhead : ∀ w ∈ wsX7_isAhead, goodWord w = true := List.forall_mem_cons.mpr ⟨by decide +kernel, List.forall_mem_append.mpr ⟨gdX7_isAhead_o, fun _ h => absurd h List.not_mem_nil⟩⟩
def wsX7_secret_o : List Cond := (([Cond.selects RX7 yX7_noGate yX7_noGate, Cond.selects RX7 yX7_isAhead yX7_isAhead] : List Cond) ++ (([Cond.fieldLink RX7 25 "WrongWord" "gate" "LWrongWord$Gate;", Cond.initialized RX7, Cond.fieldLink RX7 130 "WrongWord$Gate" "words" "I"] : List Cond) ++ (([Cond.constant RX7 136 (-1000002), Cond.constant RX7 59 (-1000001), Cond.methodLink RX7 133 yX7_noGate, Cond.instanceMethod yX7_noGate, Cond.methodLink RX7 153 yX2_secretIn, Cond.instanceMethod yX2_secretIn, Cond.selects RX2 yX2_secretIn yX2_secretIn] : List Cond) ++ (([Cond.methodLink RX7 227 yX7_isAhead, Cond.instanceMethod yX7_isAhead] : List Cond) ++ ([] : List Cond)))))
def wsX7_secret : List Cond := .code yX7_secret cX7_secret 2 (some .int) :: (wsX7_secret_o ++ (wsX70 ++ (wsX20 ++ (wsX40 ++ (wsX7_noGate ++ (wsX7_isAhead ++ (wsX2_secretIn ++ ([] : List Cond))))))))
set_option maxRecDepth 100000 in
theorem itX7_secret_o : ∀ w ∈ wsX7_secret_o, w ∈ lw_tbl := List.forall_mem_append.mpr ⟨fun w h => ch_0 w (mem_r (big := k2_sels lw_privs) _ [11, 15] (by decide +kernel) w h), List.forall_mem_append.mpr ⟨fun w h => ch_1 w (mem_r (big := tables_1_1) _ [238, 1, 107] (by decide +kernel) w h), List.forall_mem_append.mpr ⟨fun w h => ch_2 w (mem_r (big := tables_1_2) _ [165, 32, 161, 163, 178, 179, 180] (by decide +kernel) w h), List.forall_mem_append.mpr ⟨fun w h => ch_3 w (mem_r (big := tables_1_3) _ [45, 47] (by decide +kernel) w h), fun _ h => absurd h List.not_mem_nil⟩⟩⟩⟩
set_option maxRecDepth 100000 in
theorem itX7_secret : ∀ w ∈ wsX7_secret, w ∈ lw_tbl := List.forall_mem_cons.mpr ⟨ch_3 _ (List.mem_of_getElem? (l := tables_1_3) (i := 44) (by decide +kernel)), List.forall_mem_append.mpr ⟨itX7_secret_o, List.forall_mem_append.mpr ⟨itX70, List.forall_mem_append.mpr ⟨itX20, List.forall_mem_append.mpr ⟨itX40, List.forall_mem_append.mpr ⟨itX7_noGate, List.forall_mem_append.mpr ⟨itX7_isAhead, List.forall_mem_append.mpr ⟨itX2_secretIn, fun _ h => absurd h List.not_mem_nil⟩⟩⟩⟩⟩⟩⟩⟩
set_option maxRecDepth 100000 in
theorem gdX7_secret_o : ∀ w ∈ wsX7_secret_o, goodWord w = true := gd_o (by decide +kernel)
set_option maxRecDepth 100000 in
theorem gdX7_secret : ∀ w ∈ wsX7_secret, goodWord w = true := List.forall_mem_cons.mpr ⟨by decide +kernel, List.forall_mem_append.mpr ⟨gdX7_secret_o, List.forall_mem_append.mpr ⟨gdX70, List.forall_mem_append.mpr ⟨gdX20, List.forall_mem_append.mpr ⟨gdX40, List.forall_mem_append.mpr ⟨gdX7_noGate, List.forall_mem_append.mpr ⟨gdX7_isAhead, List.forall_mem_append.mpr ⟨gdX2_secretIn, fun _ h => absurd h List.not_mem_nil⟩⟩⟩⟩⟩⟩⟩⟩
def wsX7_taken_o : List Cond := (([Cond.selects RX7 yX7_isWord yX7_isWord, Cond.selects RX7 yX7_isHour yX7_isHour, Cond.selects RX7 yX7_isAhead yX7_isAhead] : List Cond) ++ (([Cond.fieldLink RX7 25 "WrongWord" "gate" "LWrongWord$Gate;", Cond.initialized RX7, Cond.fieldLink RX7 130 "WrongWord$Gate" "words" "I"] : List Cond) ++ (([Cond.constant RX7 59 (-1000001), Cond.methodLink RX7 156 yX7_isWord, Cond.instanceMethod yX7_isWord, Cond.methodLink RX7 159 yX7_isHour, Cond.instanceMethod yX7_isHour, Cond.methodLink RX7 168 yX2_catches, Cond.instanceMethod yX2_catches, Cond.selects RX2 yX2_catches yX2_catches, Cond.methodLink RX7 180 yX7_bit, Cond.static yX7_bit] : List Cond) ++ (([Cond.methodLink RX7 227 yX7_isAhead, Cond.instanceMethod yX7_isAhead] : List Cond) ++ ([] : List Cond)))))
def wsX7_taken : List Cond := .code yX7_taken cX7_taken 4 (some .int) :: (wsX7_taken_o ++ (wsX70 ++ (wsX20 ++ (wsX40 ++ (wsX7_isWord ++ (wsX7_isHour ++ (wsX7_isAhead ++ (wsX2_catches ++ (wsX7_bit ++ ([] : List Cond))))))))))
set_option maxRecDepth 100000 in
theorem itX7_taken_o : ∀ w ∈ wsX7_taken_o, w ∈ lw_tbl := List.forall_mem_append.mpr ⟨fun w h => ch_0 w (mem_r (big := k2_sels lw_privs) _ [12, 13, 15] (by decide +kernel) w h), List.forall_mem_append.mpr ⟨fun w h => ch_1 w (mem_r (big := tables_1_1) _ [238, 1, 107] (by decide +kernel) w h), List.forall_mem_append.mpr ⟨fun w h => ch_2 w (mem_r (big := tables_1_2) _ [32, 193, 195, 197, 199, 205, 206, 207, 237, 235] (by decide +kernel) w h), List.forall_mem_append.mpr ⟨fun w h => ch_3 w (mem_r (big := tables_1_3) _ [45, 47] (by decide +kernel) w h), fun _ h => absurd h List.not_mem_nil⟩⟩⟩⟩
set_option maxRecDepth 100000 in
theorem itX7_taken : ∀ w ∈ wsX7_taken, w ∈ lw_tbl := List.forall_mem_cons.mpr ⟨ch_3 _ (List.mem_of_getElem? (l := tables_1_3) (i := 52) (by decide +kernel)), List.forall_mem_append.mpr ⟨itX7_taken_o, List.forall_mem_append.mpr ⟨itX70, List.forall_mem_append.mpr ⟨itX20, List.forall_mem_append.mpr ⟨itX40, List.forall_mem_append.mpr ⟨itX7_isWord, List.forall_mem_append.mpr ⟨itX7_isHour, List.forall_mem_append.mpr ⟨itX7_isAhead, List.forall_mem_append.mpr ⟨itX2_catches, List.forall_mem_append.mpr ⟨itX7_bit, fun _ h => absurd h List.not_mem_nil⟩⟩⟩⟩⟩⟩⟩⟩⟩⟩
set_option maxRecDepth 100000 in
theorem gdX7_taken_o : ∀ w ∈ wsX7_taken_o, goodWord w = true := gd_o (by decide +kernel)
set_option maxRecDepth 100000 in
theorem gdX7_taken : ∀ w ∈ wsX7_taken, goodWord w = true := List.forall_mem_cons.mpr ⟨by decide +kernel, List.forall_mem_append.mpr ⟨gdX7_taken_o, List.forall_mem_append.mpr ⟨gdX70, List.forall_mem_append.mpr ⟨gdX20, List.forall_mem_append.mpr ⟨gdX40, List.forall_mem_append.mpr ⟨gdX7_isWord, List.forall_mem_append.mpr ⟨gdX7_isHour, List.forall_mem_append.mpr ⟨gdX7_isAhead, List.forall_mem_append.mpr ⟨gdX2_catches, List.forall_mem_append.mpr ⟨gdX7_bit, fun _ h => absurd h List.not_mem_nil⟩⟩⟩⟩⟩⟩⟩⟩⟩⟩
def wsX7_safe_o : List Cond := (([Cond.selects RX7 yX7_noGate yX7_noGate, Cond.selects RX7 yX7_isHour yX7_isHour, Cond.selects RX7 yX7_isAhead yX7_isAhead] : List Cond) ++ (([Cond.fieldLink RX7 25 "WrongWord" "gate" "LWrongWord$Gate;", Cond.initialized RX7, Cond.fieldLink RX7 130 "WrongWord$Gate" "words" "I"] : List Cond) ++ (([Cond.constant RX7 136 (-1000002), Cond.constant RX7 59 (-1000001), Cond.methodLink RX7 133 yX7_noGate, Cond.instanceMethod yX7_noGate, Cond.methodLink RX7 159 yX7_isHour, Cond.instanceMethod yX7_isHour] : List Cond) ++ (([Cond.methodLink RX7 227 yX7_isAhead, Cond.instanceMethod yX7_isAhead, Cond.methodLink RX7 230 yX2_wordsIn, Cond.instanceMethod yX2_wordsIn, Cond.selects RX2 yX2_wordsIn yX2_wordsIn] : List Cond) ++ ([] : List Cond)))))
def wsX7_safe : List Cond := .code yX7_safe cX7_safe 3 (some .int) :: (wsX7_safe_o ++ (wsX70 ++ (wsX20 ++ (wsX40 ++ (wsX7_noGate ++ (wsX7_isHour ++ (wsX7_isAhead ++ (wsX2_wordsIn ++ ([] : List Cond)))))))))
set_option maxRecDepth 100000 in
theorem itX7_safe_o : ∀ w ∈ wsX7_safe_o, w ∈ lw_tbl := List.forall_mem_append.mpr ⟨fun w h => ch_0 w (mem_r (big := k2_sels lw_privs) _ [11, 13, 15] (by decide +kernel) w h), List.forall_mem_append.mpr ⟨fun w h => ch_1 w (mem_r (big := tables_1_1) _ [238, 1, 107] (by decide +kernel) w h), List.forall_mem_append.mpr ⟨fun w h => ch_2 w (mem_r (big := tables_1_2) _ [165, 32, 161, 163, 197, 199] (by decide +kernel) w h), List.forall_mem_append.mpr ⟨fun w h => ch_3 w (mem_r (big := tables_1_3) _ [45, 47, 57, 58, 59] (by decide +kernel) w h), fun _ h => absurd h List.not_mem_nil⟩⟩⟩⟩
set_option maxRecDepth 100000 in
theorem itX7_safe : ∀ w ∈ wsX7_safe, w ∈ lw_tbl := List.forall_mem_cons.mpr ⟨ch_3 _ (List.mem_of_getElem? (l := tables_1_3) (i := 56) (by decide +kernel)), List.forall_mem_append.mpr ⟨itX7_safe_o, List.forall_mem_append.mpr ⟨itX70, List.forall_mem_append.mpr ⟨itX20, List.forall_mem_append.mpr ⟨itX40, List.forall_mem_append.mpr ⟨itX7_noGate, List.forall_mem_append.mpr ⟨itX7_isHour, List.forall_mem_append.mpr ⟨itX7_isAhead, List.forall_mem_append.mpr ⟨itX2_wordsIn, fun _ h => absurd h List.not_mem_nil⟩⟩⟩⟩⟩⟩⟩⟩⟩
set_option maxRecDepth 100000 in
theorem gdX7_safe_o : ∀ w ∈ wsX7_safe_o, goodWord w = true := gd_o (by decide +kernel)
set_option maxRecDepth 100000 in
theorem gdX7_safe : ∀ w ∈ wsX7_safe, goodWord w = true := List.forall_mem_cons.mpr ⟨by decide +kernel, List.forall_mem_append.mpr ⟨gdX7_safe_o, List.forall_mem_append.mpr ⟨gdX70, List.forall_mem_append.mpr ⟨gdX20, List.forall_mem_append.mpr ⟨gdX40, List.forall_mem_append.mpr ⟨gdX7_noGate, List.forall_mem_append.mpr ⟨gdX7_isHour, List.forall_mem_append.mpr ⟨gdX7_isAhead, List.forall_mem_append.mpr ⟨gdX2_wordsIn, fun _ h => absurd h List.not_mem_nil⟩⟩⟩⟩⟩⟩⟩⟩⟩
def wsX7_areWords_o : List Cond := (([Cond.fieldLink RX7 25 "WrongWord" "gate" "LWrongWord$Gate;", Cond.fieldLink RX7 130 "WrongWord$Gate" "words" "I"] : List Cond) ++ ([] : List Cond))
def wsX7_areWords : List Cond := .code yX7_areWords cX7_areWords 2 (some .boolean) :: (wsX7_areWords_o ++ (wsX70 ++ (wsX20 ++ ([] : List Cond))))
set_option maxRecDepth 100000 in
theorem itX7_areWords_o : ∀ w ∈ wsX7_areWords_o, w ∈ lw_tbl := List.forall_mem_append.mpr ⟨fun w h => ch_1 w (mem_r (big := tables_1_1) _ [238, 107] (by decide +kernel) w h), fun _ h => absurd h List.not_mem_nil⟩
set_option maxRecDepth 100000 in
theorem itX7_areWords : ∀ w ∈ wsX7_areWords, w ∈ lw_tbl := List.forall_mem_cons.mpr ⟨ch_3 _ (List.mem_of_getElem? (l := tables_1_3) (i := 69) (by decide +kernel)), List.forall_mem_append.mpr ⟨itX7_areWords_o, List.forall_mem_append.mpr ⟨itX70, List.forall_mem_append.mpr ⟨itX20, fun _ h => absurd h List.not_mem_nil⟩⟩⟩⟩
set_option maxRecDepth 100000 in
theorem gdX7_areWords_o : ∀ w ∈ wsX7_areWords_o, goodWord w = true := gd_o (by decide +kernel)
set_option maxRecDepth 100000 in
theorem gdX7_areWords : ∀ w ∈ wsX7_areWords, goodWord w = true := List.forall_mem_cons.mpr ⟨by decide +kernel, List.forall_mem_append.mpr ⟨gdX7_areWords_o, List.forall_mem_append.mpr ⟨gdX70, List.forall_mem_append.mpr ⟨gdX20, fun _ h => absurd h List.not_mem_nil⟩⟩⟩⟩
def wsX7_open_o : List Cond := (([Cond.selects RX7 yX7_noGate yX7_noGate, Cond.selects RX7 yX7_areWords yX7_areWords, Cond.selects RX7 yX7_isAhead yX7_isAhead] : List Cond) ++ (([Cond.fieldLink RX7 25 "WrongWord" "gate" "LWrongWord$Gate;", Cond.initialized RX7, Cond.fieldLink RX7 130 "WrongWord$Gate" "words" "I"] : List Cond) ++ (([Cond.constant RX7 136 (-1000002), Cond.constant RX7 59 (-1000001), Cond.methodLink RX7 133 yX7_noGate, Cond.instanceMethod yX7_noGate] : List Cond) ++ (([Cond.methodLink RX7 233 yX7_areWords, Cond.instanceMethod yX7_areWords, Cond.methodLink RX7 227 yX7_isAhead, Cond.instanceMethod yX7_isAhead, Cond.methodLink RX7 236 yX2_hoursOpen, Cond.instanceMethod yX2_hoursOpen, Cond.selects RX2 yX2_hoursOpen yX2_hoursOpen] : List Cond) ++ ([] : List Cond)))))
def wsX7_open : List Cond := .code yX7_open cX7_open 3 (some .int) :: (wsX7_open_o ++ (wsX70 ++ (wsX20 ++ (wsX40 ++ (wsX7_noGate ++ (wsX7_areWords ++ (wsX7_isAhead ++ (wsX2_hoursOpen ++ ([] : List Cond)))))))))
set_option maxRecDepth 100000 in
theorem itX7_open_o : ∀ w ∈ wsX7_open_o, w ∈ lw_tbl := List.forall_mem_append.mpr ⟨fun w h => ch_0 w (mem_r (big := k2_sels lw_privs) _ [11, 16, 15] (by decide +kernel) w h), List.forall_mem_append.mpr ⟨fun w h => ch_1 w (mem_r (big := tables_1_1) _ [238, 1, 107] (by decide +kernel) w h), List.forall_mem_append.mpr ⟨fun w h => ch_2 w (mem_r (big := tables_1_2) _ [165, 32, 161, 163] (by decide +kernel) w h), List.forall_mem_append.mpr ⟨fun w h => ch_3 w (mem_r (big := tables_1_3) _ [66, 68, 45, 47, 70, 71, 72] (by decide +kernel) w h), fun _ h => absurd h List.not_mem_nil⟩⟩⟩⟩
set_option maxRecDepth 100000 in
theorem itX7_open : ∀ w ∈ wsX7_open, w ∈ lw_tbl := List.forall_mem_cons.mpr ⟨ch_3 _ (List.mem_of_getElem? (l := tables_1_3) (i := 65) (by decide +kernel)), List.forall_mem_append.mpr ⟨itX7_open_o, List.forall_mem_append.mpr ⟨itX70, List.forall_mem_append.mpr ⟨itX20, List.forall_mem_append.mpr ⟨itX40, List.forall_mem_append.mpr ⟨itX7_noGate, List.forall_mem_append.mpr ⟨itX7_areWords, List.forall_mem_append.mpr ⟨itX7_isAhead, List.forall_mem_append.mpr ⟨itX2_hoursOpen, fun _ h => absurd h List.not_mem_nil⟩⟩⟩⟩⟩⟩⟩⟩⟩
set_option maxRecDepth 100000 in
theorem gdX7_open_o : ∀ w ∈ wsX7_open_o, goodWord w = true := gd_o (by decide +kernel)
set_option maxRecDepth 100000 in
theorem gdX7_open : ∀ w ∈ wsX7_open, goodWord w = true := List.forall_mem_cons.mpr ⟨by decide +kernel, List.forall_mem_append.mpr ⟨gdX7_open_o, List.forall_mem_append.mpr ⟨gdX70, List.forall_mem_append.mpr ⟨gdX20, List.forall_mem_append.mpr ⟨gdX40, List.forall_mem_append.mpr ⟨gdX7_noGate, List.forall_mem_append.mpr ⟨gdX7_areWords, List.forall_mem_append.mpr ⟨gdX7_isAhead, List.forall_mem_append.mpr ⟨gdX2_hoursOpen, fun _ h => absurd h List.not_mem_nil⟩⟩⟩⟩⟩⟩⟩⟩⟩
def wsX7_next_o : List Cond := (([Cond.selects RX7 yX7_isWord yX7_isWord] : List Cond) ++ (([Cond.fieldLink RX7 25 "WrongWord" "gate" "LWrongWord$Gate;", Cond.initialized RX7, Cond.fieldLink RX7 130 "WrongWord$Gate" "words" "I"] : List Cond) ++ (([Cond.constant RX7 59 (-1000001), Cond.methodLink RX7 156 yX7_isWord, Cond.instanceMethod yX7_isWord] : List Cond) ++ (([Cond.methodLink RX7 239 yX2_nightsUntil, Cond.instanceMethod yX2_nightsUntil, Cond.selects RX2 yX2_nightsUntil yX2_nightsUntil] : List Cond) ++ ([] : List Cond)))))
def wsX7_next : List Cond := .code yX7_next cX7_next 2 (some .int) :: (wsX7_next_o ++ (wsX70 ++ (wsX20 ++ (wsX40 ++ (wsX7_isWord ++ (wsX2_nightsUntil ++ ([] : List Cond)))))))
set_option maxRecDepth 100000 in
theorem itX7_next_o : ∀ w ∈ wsX7_next_o, w ∈ lw_tbl := List.forall_mem_append.mpr ⟨fun w h => ch_0 w (mem_r (big := k2_sels lw_privs) _ [12] (by decide +kernel) w h), List.forall_mem_append.mpr ⟨fun w h => ch_1 w (mem_r (big := tables_1_1) _ [238, 1, 107] (by decide +kernel) w h), List.forall_mem_append.mpr ⟨fun w h => ch_2 w (mem_r (big := tables_1_2) _ [32, 193, 195] (by decide +kernel) w h), List.forall_mem_append.mpr ⟨fun w h => ch_3 w (mem_r (big := tables_1_3) _ [79, 80, 81] (by decide +kernel) w h), fun _ h => absurd h List.not_mem_nil⟩⟩⟩⟩
set_option maxRecDepth 100000 in
theorem itX7_next : ∀ w ∈ wsX7_next, w ∈ lw_tbl := List.forall_mem_cons.mpr ⟨ch_3 _ (List.mem_of_getElem? (l := tables_1_3) (i := 78) (by decide +kernel)), List.forall_mem_append.mpr ⟨itX7_next_o, List.forall_mem_append.mpr ⟨itX70, List.forall_mem_append.mpr ⟨itX20, List.forall_mem_append.mpr ⟨itX40, List.forall_mem_append.mpr ⟨itX7_isWord, List.forall_mem_append.mpr ⟨itX2_nightsUntil, fun _ h => absurd h List.not_mem_nil⟩⟩⟩⟩⟩⟩⟩
set_option maxRecDepth 100000 in
theorem gdX7_next_o : ∀ w ∈ wsX7_next_o, goodWord w = true := gd_o (by decide +kernel)
set_option maxRecDepth 100000 in
theorem gdX7_next : ∀ w ∈ wsX7_next, goodWord w = true := List.forall_mem_cons.mpr ⟨by decide +kernel, List.forall_mem_append.mpr ⟨gdX7_next_o, List.forall_mem_append.mpr ⟨gdX70, List.forall_mem_append.mpr ⟨gdX20, List.forall_mem_append.mpr ⟨gdX40, List.forall_mem_append.mpr ⟨gdX7_isWord, List.forall_mem_append.mpr ⟨gdX2_nightsUntil, fun _ h => absurd h List.not_mem_nil⟩⟩⟩⟩⟩⟩⟩
def wsX7_agree_o : List Cond := (([Cond.selects RX7 yX7_noGate yX7_noGate] : List Cond) ++ (([Cond.fieldLink RX7 25 "WrongWord" "gate" "LWrongWord$Gate;", Cond.initialized RX7, Cond.fieldLink RX7 130 "WrongWord$Gate" "words" "I"] : List Cond) ++ (([Cond.constant RX7 136 (-1000002), Cond.methodLink RX7 133 yX7_noGate, Cond.instanceMethod yX7_noGate] : List Cond) ++ (([Cond.methodLink RX7 242 yX3_agreeing, Cond.static yX3_agreeing] : List Cond) ++ ([] : List Cond)))))
def wsX7_agree : List Cond := .code yX7_agree cX7_agree 1 (some .int) :: (wsX7_agree_o ++ (wsX70 ++ (wsX20 ++ (wsX40 ++ (wsX7_noGate ++ (wsX3_agreeing ++ ([] : List Cond)))))))
set_option maxRecDepth 100000 in
theorem itX7_agree_o : ∀ w ∈ wsX7_agree_o, w ∈ lw_tbl := List.forall_mem_append.mpr ⟨fun w h => ch_0 w (mem_r (big := k2_sels lw_privs) _ [11] (by decide +kernel) w h), List.forall_mem_append.mpr ⟨fun w h => ch_1 w (mem_r (big := tables_1_1) _ [238, 1, 107] (by decide +kernel) w h), List.forall_mem_append.mpr ⟨fun w h => ch_2 w (mem_r (big := tables_1_2) _ [165, 161, 163] (by decide +kernel) w h), List.forall_mem_append.mpr ⟨fun w h => ch_3 w (mem_r (big := tables_1_3) _ [88, 89] (by decide +kernel) w h), fun _ h => absurd h List.not_mem_nil⟩⟩⟩⟩
set_option maxRecDepth 100000 in
theorem itX7_agree : ∀ w ∈ wsX7_agree, w ∈ lw_tbl := List.forall_mem_cons.mpr ⟨ch_3 _ (List.mem_of_getElem? (l := tables_1_3) (i := 87) (by decide +kernel)), List.forall_mem_append.mpr ⟨itX7_agree_o, List.forall_mem_append.mpr ⟨itX70, List.forall_mem_append.mpr ⟨itX20, List.forall_mem_append.mpr ⟨itX40, List.forall_mem_append.mpr ⟨itX7_noGate, List.forall_mem_append.mpr ⟨itX3_agreeing, fun _ h => absurd h List.not_mem_nil⟩⟩⟩⟩⟩⟩⟩
set_option maxRecDepth 100000 in
theorem gdX7_agree_o : ∀ w ∈ wsX7_agree_o, goodWord w = true := gd_o (by decide +kernel)
set_option maxRecDepth 100000 in
theorem gdX7_agree : ∀ w ∈ wsX7_agree, goodWord w = true := List.forall_mem_cons.mpr ⟨by decide +kernel, List.forall_mem_append.mpr ⟨gdX7_agree_o, List.forall_mem_append.mpr ⟨gdX70, List.forall_mem_append.mpr ⟨gdX20, List.forall_mem_append.mpr ⟨gdX40, List.forall_mem_append.mpr ⟨gdX7_noGate, List.forall_mem_append.mpr ⟨gdX3_agreeing, fun _ h => absurd h List.not_mem_nil⟩⟩⟩⟩⟩⟩⟩
def wsX7_man_o : List Cond := (([Cond.selects RX7 yX7_noGate yX7_noGate] : List Cond) ++ (([Cond.fieldLink RX7 25 "WrongWord" "gate" "LWrongWord$Gate;", Cond.initialized RX7, Cond.fieldLink RX7 130 "WrongWord$Gate" "words" "I"] : List Cond) ++ (([Cond.constant RX7 136 (-1000002), Cond.constant RX7 59 (-1000001), Cond.methodLink RX7 133 yX7_noGate, Cond.instanceMethod yX7_noGate] : List Cond) ++ (([Cond.methodLink RX7 242 yX3_agreeing, Cond.static yX3_agreeing, Cond.methodLink RX7 246 yX3_bestTry, Cond.static yX3_bestTry, Cond.methodLink RX3 82 yX3_leftAtWorst, Cond.static yX3_leftAtWorst, Cond.methodLink RX7 250 yX3_leftAtWorst] : List Cond) ++ ([] : List Cond)))))
def wsX7_man : List Cond := .code yX7_man cX7_man 4 (some .int) :: (wsX7_man_o ++ (wsX70 ++ (wsX20 ++ (wsX40 ++ (wsX7_noGate ++ (wsX3_agreeing ++ (wsX3_bestTry ++ (wsX3_leftAtWorst ++ ([] : List Cond)))))))))
set_option maxRecDepth 100000 in
theorem itX7_man_o : ∀ w ∈ wsX7_man_o, w ∈ lw_tbl := List.forall_mem_append.mpr ⟨fun w h => ch_0 w (mem_r (big := k2_sels lw_privs) _ [11] (by decide +kernel) w h), List.forall_mem_append.mpr ⟨fun w h => ch_1 w (mem_r (big := tables_1_1) _ [238, 1, 107] (by decide +kernel) w h), List.forall_mem_append.mpr ⟨fun w h => ch_2 w (mem_r (big := tables_1_2) _ [165, 32, 161, 163] (by decide +kernel) w h), List.forall_mem_append.mpr ⟨fun w h => ch_3 w (mem_r (big := tables_1_3) _ [88, 89, 100, 101, 103, 104, 119] (by decide +kernel) w h), fun _ h => absurd h List.not_mem_nil⟩⟩⟩⟩
set_option maxRecDepth 100000 in
theorem itX7_man : ∀ w ∈ wsX7_man, w ∈ lw_tbl := List.forall_mem_cons.mpr ⟨ch_3 _ (List.mem_of_getElem? (l := tables_1_3) (i := 99) (by decide +kernel)), List.forall_mem_append.mpr ⟨itX7_man_o, List.forall_mem_append.mpr ⟨itX70, List.forall_mem_append.mpr ⟨itX20, List.forall_mem_append.mpr ⟨itX40, List.forall_mem_append.mpr ⟨itX7_noGate, List.forall_mem_append.mpr ⟨itX3_agreeing, List.forall_mem_append.mpr ⟨itX3_bestTry, List.forall_mem_append.mpr ⟨itX3_leftAtWorst, fun _ h => absurd h List.not_mem_nil⟩⟩⟩⟩⟩⟩⟩⟩⟩
set_option maxRecDepth 100000 in
theorem gdX7_man_o : ∀ w ∈ wsX7_man_o, goodWord w = true := gd_o (by decide +kernel)
set_option maxRecDepth 100000 in
theorem gdX7_man : ∀ w ∈ wsX7_man, goodWord w = true := List.forall_mem_cons.mpr ⟨by decide +kernel, List.forall_mem_append.mpr ⟨gdX7_man_o, List.forall_mem_append.mpr ⟨gdX70, List.forall_mem_append.mpr ⟨gdX20, List.forall_mem_append.mpr ⟨gdX40, List.forall_mem_append.mpr ⟨gdX7_noGate, List.forall_mem_append.mpr ⟨gdX3_agreeing, List.forall_mem_append.mpr ⟨gdX3_bestTry, List.forall_mem_append.mpr ⟨gdX3_leftAtWorst, fun _ h => absurd h List.not_mem_nil⟩⟩⟩⟩⟩⟩⟩⟩⟩
def wsX7_fewest_o : List Cond := (([Cond.selects RX7 yX7_noGate yX7_noGate] : List Cond) ++ (([Cond.fieldLink RX7 25 "WrongWord" "gate" "LWrongWord$Gate;", Cond.initialized RX7, Cond.fieldLink RX7 130 "WrongWord$Gate" "words" "I"] : List Cond) ++ (([Cond.constant RX7 136 (-1000002), Cond.fieldLink RX7 43 "WrongWord" "guesses" "LWrongWord$Guesses;", Cond.methodLink RX7 133 yX7_noGate, Cond.instanceMethod yX7_noGate] : List Cond) ++ (([Cond.methodLink RX7 242 yX3_agreeing, Cond.static yX3_agreeing, Cond.methodLink RX7 254 yX3_fewestMen, Cond.instanceMethod yX3_fewestMen, Cond.selects RX3 yX3_fewestMen yX3_fewestMen] : List Cond) ++ ([] : List Cond)))))
def wsX7_fewest : List Cond := .code yX7_fewest cX7_fewest 1 (some .int) :: (wsX7_fewest_o ++ (wsX70 ++ (wsX20 ++ (wsX40 ++ (wsX30 ++ (wsX7_noGate ++ (wsX3_agreeing ++ (wsX3_fewestMen ++ ([] : List Cond)))))))))
set_option maxRecDepth 100000 in
theorem itX7_fewest_o : ∀ w ∈ wsX7_fewest_o, w ∈ lw_tbl := List.forall_mem_append.mpr ⟨fun w h => ch_0 w (mem_r (big := k2_sels lw_privs) _ [11] (by decide +kernel) w h), List.forall_mem_append.mpr ⟨fun w h => ch_1 w (mem_r (big := tables_1_1) _ [238, 1, 107] (by decide +kernel) w h), List.forall_mem_append.mpr ⟨fun w h => ch_2 w (mem_r (big := tables_1_2) _ [165, 1, 161, 163] (by decide +kernel) w h), List.forall_mem_append.mpr ⟨fun w h => ch_3 w (mem_r (big := tables_1_3) _ [88, 89, 124, 125, 126] (by decide +kernel) w h), fun _ h => absurd h List.not_mem_nil⟩⟩⟩⟩
set_option maxRecDepth 100000 in
theorem itX7_fewest : ∀ w ∈ wsX7_fewest, w ∈ lw_tbl := List.forall_mem_cons.mpr ⟨ch_3 _ (List.mem_of_getElem? (l := tables_1_3) (i := 123) (by decide +kernel)), List.forall_mem_append.mpr ⟨itX7_fewest_o, List.forall_mem_append.mpr ⟨itX70, List.forall_mem_append.mpr ⟨itX20, List.forall_mem_append.mpr ⟨itX40, List.forall_mem_append.mpr ⟨itX30, List.forall_mem_append.mpr ⟨itX7_noGate, List.forall_mem_append.mpr ⟨itX3_agreeing, List.forall_mem_append.mpr ⟨itX3_fewestMen, fun _ h => absurd h List.not_mem_nil⟩⟩⟩⟩⟩⟩⟩⟩⟩
set_option maxRecDepth 100000 in
theorem gdX7_fewest_o : ∀ w ∈ wsX7_fewest_o, goodWord w = true := gd_o (by decide +kernel)
set_option maxRecDepth 100000 in
theorem gdX7_fewest : ∀ w ∈ wsX7_fewest, goodWord w = true := List.forall_mem_cons.mpr ⟨by decide +kernel, List.forall_mem_append.mpr ⟨gdX7_fewest_o, List.forall_mem_append.mpr ⟨gdX70, List.forall_mem_append.mpr ⟨gdX20, List.forall_mem_append.mpr ⟨gdX40, List.forall_mem_append.mpr ⟨gdX30, List.forall_mem_append.mpr ⟨gdX7_noGate, List.forall_mem_append.mpr ⟨gdX3_agreeing, List.forall_mem_append.mpr ⟨gdX3_fewestMen, fun _ h => absurd h List.not_mem_nil⟩⟩⟩⟩⟩⟩⟩⟩⟩
def wsX7_hourOfLast_o : List Cond := (([Cond.selects RX7 yX7_isWord yX7_isWord] : List Cond) ++ (([Cond.fieldLink RX7 86 "WrongWord$Row" "items" "[I", Cond.fieldLink RX7 25 "WrongWord" "gate" "LWrongWord$Gate;", Cond.initialized RX7, Cond.fieldLink RX7 130 "WrongWord$Gate" "words" "I"] : List Cond) ++ (([Cond.constant RX7 175 (-1000000), Cond.methodLink RX7 156 yX7_isWord, Cond.instanceMethod yX7_isWord] : List Cond) ++ (([Cond.methodLink RX7 337 yX2_hourIn, Cond.instanceMethod yX2_hourIn, Cond.selects RX2 yX2_hourIn yX2_hourIn] : List Cond) ++ ([] : List Cond)))))
def wsX7_hourOfLast : List Cond := .code yX7_hourOfLast cX7_hourOfLast 7 (some .int) :: (wsX7_hourOfLast_o ++ (wsX50 ++ (wsX70 ++ (wsX20 ++ (wsX40 ++ (wsX7_isWord ++ (wsX2_hourIn ++ ([] : List Cond))))))))
set_option maxRecDepth 100000 in
theorem itX7_hourOfLast_o : ∀ w ∈ wsX7_hourOfLast_o, w ∈ lw_tbl := List.forall_mem_append.mpr ⟨fun w h => ch_0 w (mem_r (big := k2_sels lw_privs) _ [12] (by decide +kernel) w h), List.forall_mem_append.mpr ⟨fun w h => ch_1 w (mem_r (big := tables_1_1) _ [224, 238, 1, 107] (by decide +kernel) w h), List.forall_mem_append.mpr ⟨fun w h => ch_2 w (mem_r (big := tables_1_2) _ [229, 193, 195] (by decide +kernel) w h), List.forall_mem_append.mpr ⟨fun w h => ch_3 w (mem_r (big := tables_1_3) _ [142, 143, 144] (by decide +kernel) w h), fun _ h => absurd h List.not_mem_nil⟩⟩⟩⟩
set_option maxRecDepth 100000 in
theorem itX7_hourOfLast : ∀ w ∈ wsX7_hourOfLast, w ∈ lw_tbl := List.forall_mem_cons.mpr ⟨ch_3 _ (List.mem_of_getElem? (l := tables_1_3) (i := 141) (by decide +kernel)), List.forall_mem_append.mpr ⟨itX7_hourOfLast_o, List.forall_mem_append.mpr ⟨itX50, List.forall_mem_append.mpr ⟨itX70, List.forall_mem_append.mpr ⟨itX20, List.forall_mem_append.mpr ⟨itX40, List.forall_mem_append.mpr ⟨itX7_isWord, List.forall_mem_append.mpr ⟨itX2_hourIn, fun _ h => absurd h List.not_mem_nil⟩⟩⟩⟩⟩⟩⟩⟩
set_option maxRecDepth 100000 in
theorem gdX7_hourOfLast_o : ∀ w ∈ wsX7_hourOfLast_o, goodWord w = true := gd_o (by decide +kernel)
set_option maxRecDepth 100000 in
theorem gdX7_hourOfLast : ∀ w ∈ wsX7_hourOfLast, goodWord w = true := List.forall_mem_cons.mpr ⟨by decide +kernel, List.forall_mem_append.mpr ⟨gdX7_hourOfLast_o, List.forall_mem_append.mpr ⟨gdX50, List.forall_mem_append.mpr ⟨gdX70, List.forall_mem_append.mpr ⟨gdX20, List.forall_mem_append.mpr ⟨gdX40, List.forall_mem_append.mpr ⟨gdX7_isWord, List.forall_mem_append.mpr ⟨gdX2_hourIn, fun _ h => absurd h List.not_mem_nil⟩⟩⟩⟩⟩⟩⟩⟩
def wsX7_march_o : List Cond := (([Cond.selects RX7 yX7_noGate yX7_noGate, Cond.selects RX7 yX7_isRow yX7_isRow, Cond.selects RX7 yX7_found yX7_found, Cond.selects RX7 yX7_hourOfLast yX7_hourOfLast, Cond.selects RX7 yX7_isWord yX7_isWord, Cond.selects RX7 yX7_unfound yX7_unfound] : List Cond) ++ (([Cond.fieldLink RX7 11 "WrongWord" "rows" "[LWrongWord$Row;", Cond.initialized RX7, Cond.fieldLink RX7 25 "WrongWord" "gate" "LWrongWord$Gate;", Cond.fieldLink RX7 130 "WrongWord$Gate" "words" "I", Cond.fieldLink RX7 86 "WrongWord$Row" "items" "[I"] : List Cond) ++ (([Cond.constant RX7 136 (-1000002), Cond.constant RX7 59 (-1000001), Cond.methodLink RX7 133 yX7_noGate, Cond.instanceMethod yX7_noGate, Cond.methodLink RX7 55 yX7_isRow, Cond.instanceMethod yX7_isRow, Cond.methodLink RX7 71 yX5_findingOf, Cond.instanceMethod yX5_findingOf, Cond.selects RX5 yX5_findingOf yX5_findingOf, Cond.methodLink RX7 60 yX7_found, Cond.instanceMethod yX7_found, Cond.fieldLink RX7 333 "WrongWord" "latestFinding" "I", Cond.constant RX7 336 (-1000010), Cond.constant RX7 175 (-1000000), Cond.methodLink RX7 156 yX7_isWord, Cond.methodLink RX7 68 yX7_unfound, Cond.instanceMethod yX7_unfound] : List Cond) ++ (([Cond.methodLink RX7 257 yX7_hourOfLast, Cond.instanceMethod yX7_hourOfLast, Cond.methodLink RX7 337 yX2_hourIn] : List Cond) ++ ([] : List Cond)))))
def wsX7_march : List Cond := .code yX7_march cX7_march 6 (some .int) :: (wsX7_march_o ++ (wsX70 ++ (wsX20 ++ (wsX50 ++ (wsX40 ++ (wsX7_noGate ++ (wsX7_isRow ++ (wsX5_findingOf ++ (wsX7_found ++ (wsX7_hourOfLast ++ (wsX7_unfound ++ ([] : List Cond))))))))))))
set_option maxRecDepth 100000 in
theorem itX7_march_o : ∀ w ∈ wsX7_march_o, w ∈ lw_tbl := List.forall_mem_append.mpr ⟨fun w h => ch_0 w (mem_r (big := k2_sels lw_privs) _ [11, 0, 1, 18, 12, 2] (by decide +kernel) w h), List.forall_mem_append.mpr ⟨fun w h => ch_1 w (mem_r (big := tables_1_1) _ [236, 1, 238, 107, 224] (by decide +kernel) w h), List.forall_mem_append.mpr ⟨fun w h => ch_2 w (mem_r (big := tables_1_2) _ [165, 32, 161, 163, 28, 30, 50, 51, 52, 33, 35, 4, 37, 229, 193, 42, 44] (by decide +kernel) w h), List.forall_mem_append.mpr ⟨fun w h => ch_3 w (mem_r (big := tables_1_3) _ [138, 140, 142] (by decide +kernel) w h), fun _ h => absurd h List.not_mem_nil⟩⟩⟩⟩
set_option maxRecDepth 100000 in
theorem itX7_march : ∀ w ∈ wsX7_march, w ∈ lw_tbl := List.forall_mem_cons.mpr ⟨ch_3 _ (List.mem_of_getElem? (l := tables_1_3) (i := 137) (by decide +kernel)), List.forall_mem_append.mpr ⟨itX7_march_o, List.forall_mem_append.mpr ⟨itX70, List.forall_mem_append.mpr ⟨itX20, List.forall_mem_append.mpr ⟨itX50, List.forall_mem_append.mpr ⟨itX40, List.forall_mem_append.mpr ⟨itX7_noGate, List.forall_mem_append.mpr ⟨itX7_isRow, List.forall_mem_append.mpr ⟨itX5_findingOf, List.forall_mem_append.mpr ⟨itX7_found, List.forall_mem_append.mpr ⟨itX7_hourOfLast, List.forall_mem_append.mpr ⟨itX7_unfound, fun _ h => absurd h List.not_mem_nil⟩⟩⟩⟩⟩⟩⟩⟩⟩⟩⟩⟩
set_option maxRecDepth 100000 in
theorem gdX7_march_o : ∀ w ∈ wsX7_march_o, goodWord w = true := gd_o (by decide +kernel)
set_option maxRecDepth 100000 in
theorem gdX7_march : ∀ w ∈ wsX7_march, goodWord w = true := List.forall_mem_cons.mpr ⟨by decide +kernel, List.forall_mem_append.mpr ⟨gdX7_march_o, List.forall_mem_append.mpr ⟨gdX70, List.forall_mem_append.mpr ⟨gdX20, List.forall_mem_append.mpr ⟨gdX50, List.forall_mem_append.mpr ⟨gdX40, List.forall_mem_append.mpr ⟨gdX7_noGate, List.forall_mem_append.mpr ⟨gdX7_isRow, List.forall_mem_append.mpr ⟨gdX5_findingOf, List.forall_mem_append.mpr ⟨gdX7_found, List.forall_mem_append.mpr ⟨gdX7_hourOfLast, List.forall_mem_append.mpr ⟨gdX7_unfound, fun _ h => absurd h List.not_mem_nil⟩⟩⟩⟩⟩⟩⟩⟩⟩⟩⟩⟩
def wsX7_cheap_o : List Cond := (([Cond.selects RX7 yX7_noGate yX7_noGate, Cond.selects RX7 yX7_areWords yX7_areWords, Cond.selects RX7 yX7_isAhead yX7_isAhead] : List Cond) ++ (([Cond.fieldLink RX7 25 "WrongWord" "gate" "LWrongWord$Gate;", Cond.initialized RX7, Cond.fieldLink RX7 130 "WrongWord$Gate" "words" "I"] : List Cond) ++ (([Cond.constant RX7 136 (-1000002), Cond.constant RX7 59 (-1000001), Cond.methodLink RX7 133 yX7_noGate, Cond.instanceMethod yX7_noGate] : List Cond) ++ (([Cond.methodLink RX7 233 yX7_areWords, Cond.instanceMethod yX7_areWords, Cond.methodLink RX7 227 yX7_isAhead, Cond.instanceMethod yX7_isAhead, Cond.methodLink RX7 261 yX2_guardsAgainst, Cond.instanceMethod yX2_guardsAgainst, Cond.selects RX2 yX2_guardsAgainst yX2_guardsAgainst, Cond.methodLink RX7 264 yX2_feeOf, Cond.instanceMethod yX2_feeOf, Cond.selects RX2 yX2_feeOf yX2_feeOf] : List Cond) ++ ([] : List Cond)))))
def wsX7_cheap : List Cond := .code yX7_cheap cX7_cheap 5 (some .int) :: (wsX7_cheap_o ++ (wsX70 ++ (wsX20 ++ (wsX40 ++ (wsX7_noGate ++ (wsX7_areWords ++ (wsX7_isAhead ++ (wsX2_guardsAgainst ++ (wsX2_feeOf ++ ([] : List Cond))))))))))
set_option maxRecDepth 100000 in
theorem itX7_cheap_o : ∀ w ∈ wsX7_cheap_o, w ∈ lw_tbl := List.forall_mem_append.mpr ⟨fun w h => ch_0 w (mem_r (big := k2_sels lw_privs) _ [11, 16, 15] (by decide +kernel) w h), List.forall_mem_append.mpr ⟨fun w h => ch_1 w (mem_r (big := tables_1_1) _ [238, 1, 107] (by decide +kernel) w h), List.forall_mem_append.mpr ⟨fun w h => ch_2 w (mem_r (big := tables_1_2) _ [165, 32, 161, 163] (by decide +kernel) w h), List.forall_mem_append.mpr ⟨fun w h => ch_3 w (mem_r (big := tables_1_3) _ [66, 68, 45, 47, 150, 151, 152, 154, 155, 156] (by decide +kernel) w h), fun _ h => absurd h List.not_mem_nil⟩⟩⟩⟩
set_option maxRecDepth 100000 in
theorem itX7_cheap : ∀ w ∈ wsX7_cheap, w ∈ lw_tbl := List.forall_mem_cons.mpr ⟨ch_3 _ (List.mem_of_getElem? (l := tables_1_3) (i := 149) (by decide +kernel)), List.forall_mem_append.mpr ⟨itX7_cheap_o, List.forall_mem_append.mpr ⟨itX70, List.forall_mem_append.mpr ⟨itX20, List.forall_mem_append.mpr ⟨itX40, List.forall_mem_append.mpr ⟨itX7_noGate, List.forall_mem_append.mpr ⟨itX7_areWords, List.forall_mem_append.mpr ⟨itX7_isAhead, List.forall_mem_append.mpr ⟨itX2_guardsAgainst, List.forall_mem_append.mpr ⟨itX2_feeOf, fun _ h => absurd h List.not_mem_nil⟩⟩⟩⟩⟩⟩⟩⟩⟩⟩
set_option maxRecDepth 100000 in
theorem gdX7_cheap_o : ∀ w ∈ wsX7_cheap_o, goodWord w = true := gd_o (by decide +kernel)
set_option maxRecDepth 100000 in
theorem gdX7_cheap : ∀ w ∈ wsX7_cheap, goodWord w = true := List.forall_mem_cons.mpr ⟨by decide +kernel, List.forall_mem_append.mpr ⟨gdX7_cheap_o, List.forall_mem_append.mpr ⟨gdX70, List.forall_mem_append.mpr ⟨gdX20, List.forall_mem_append.mpr ⟨gdX40, List.forall_mem_append.mpr ⟨gdX7_noGate, List.forall_mem_append.mpr ⟨gdX7_areWords, List.forall_mem_append.mpr ⟨gdX7_isAhead, List.forall_mem_append.mpr ⟨gdX2_guardsAgainst, List.forall_mem_append.mpr ⟨gdX2_feeOf, fun _ h => absurd h List.not_mem_nil⟩⟩⟩⟩⟩⟩⟩⟩⟩⟩
def wsX7_near_o : List Cond := (([Cond.selects RX7 yX7_isWord yX7_isWord] : List Cond) ++ (([Cond.fieldLink RX7 25 "WrongWord" "gate" "LWrongWord$Gate;", Cond.initialized RX7, Cond.fieldLink RX7 130 "WrongWord$Gate" "words" "I"] : List Cond) ++ (([Cond.constant RX7 59 (-1000001), Cond.constant RX7 175 (-1000000), Cond.methodLink RX7 156 yX7_isWord, Cond.instanceMethod yX7_isWord, Cond.methodLink RX2 68 yX2_distance, Cond.instanceMethod yX2_distance, Cond.selects RX2 yX2_distance yX2_distance] : List Cond) ++ (([Cond.methodLink RX7 267 yX2_nearestTo, Cond.instanceMethod yX2_nearestTo, Cond.selects RX2 yX2_nearestTo yX2_nearestTo, Cond.methodLink RX7 203 yX2_distance] : List Cond) ++ ([] : List Cond)))))
def wsX7_near : List Cond := .code yX7_near cX7_near 4 (some .int) :: (wsX7_near_o ++ (wsX70 ++ (wsX20 ++ (wsX7_isWord ++ (wsX2_nearestTo ++ (wsX2_distance ++ ([] : List Cond)))))))
set_option maxRecDepth 100000 in
theorem itX7_near_o : ∀ w ∈ wsX7_near_o, w ∈ lw_tbl := List.forall_mem_append.mpr ⟨fun w h => ch_0 w (mem_r (big := k2_sels lw_privs) _ [12] (by decide +kernel) w h), List.forall_mem_append.mpr ⟨fun w h => ch_1 w (mem_r (big := tables_1_1) _ [238, 1, 107] (by decide +kernel) w h), List.forall_mem_append.mpr ⟨fun w h => ch_2 w (mem_r (big := tables_1_2) _ [32, 229, 193, 195, 223, 123, 124] (by decide +kernel) w h), List.forall_mem_append.mpr ⟨fun w h => ch_3 w (mem_r (big := tables_1_3) _ [162, 163, 164, 26] (by decide +kernel) w h), fun _ h => absurd h List.not_mem_nil⟩⟩⟩⟩
set_option maxRecDepth 100000 in
theorem itX7_near : ∀ w ∈ wsX7_near, w ∈ lw_tbl := List.forall_mem_cons.mpr ⟨ch_3 _ (List.mem_of_getElem? (l := tables_1_3) (i := 161) (by decide +kernel)), List.forall_mem_append.mpr ⟨itX7_near_o, List.forall_mem_append.mpr ⟨itX70, List.forall_mem_append.mpr ⟨itX20, List.forall_mem_append.mpr ⟨itX7_isWord, List.forall_mem_append.mpr ⟨itX2_nearestTo, List.forall_mem_append.mpr ⟨itX2_distance, fun _ h => absurd h List.not_mem_nil⟩⟩⟩⟩⟩⟩⟩
set_option maxRecDepth 100000 in
theorem gdX7_near_o : ∀ w ∈ wsX7_near_o, goodWord w = true := gd_o (by decide +kernel)
set_option maxRecDepth 100000 in
theorem gdX7_near : ∀ w ∈ wsX7_near, goodWord w = true := List.forall_mem_cons.mpr ⟨by decide +kernel, List.forall_mem_append.mpr ⟨gdX7_near_o, List.forall_mem_append.mpr ⟨gdX70, List.forall_mem_append.mpr ⟨gdX20, List.forall_mem_append.mpr ⟨gdX7_isWord, List.forall_mem_append.mpr ⟨gdX2_nearestTo, List.forall_mem_append.mpr ⟨gdX2_distance, fun _ h => absurd h List.not_mem_nil⟩⟩⟩⟩⟩⟩⟩
def wsX7_rulesThatTell_o : List Cond := (([Cond.fieldLink RX7 25 "WrongWord" "gate" "LWrongWord$Gate;", Cond.fieldLink RX7 137 "WrongWord$Gate" "now" "LWrongWord$Moment;", Cond.fieldLink RX7 184 "WrongWord$Moment" "start" "I", Cond.fieldLink RX7 340 "WrongWord$Gate" "step" "I", Cond.fieldLink RX7 343 "WrongWord$Gate" "shrove" "I", Cond.fieldLink RX7 141 "WrongWord$Moment" "night" "I", Cond.fieldLink RX7 86 "WrongWord$Row" "items" "[I", Cond.initialized RX2, Cond.initialized RX7] : List Cond) ++ (([Cond.instanceMethod yX2_secretBy, Cond.selects RX2 yX2_secretBy yX2_secretBy, Cond.methodLink RX7 180 yX7_bit, Cond.static yX7_bit] : List Cond) ++ (([Cond.methodLink RX7 346 yX2_secretBy] : List Cond) ++ ([] : List Cond))))
def wsX7_rulesThatTell : List Cond := .code yX7_rulesThatTell cX7_rulesThatTell 13 (some .int) :: (wsX7_rulesThatTell_o ++ (wsX70 ++ (wsX20 ++ (wsX40 ++ (wsX50 ++ (wsX2_secretBy ++ (wsX7_bit ++ ([] : List Cond))))))))
set_option maxRecDepth 100000 in
theorem itX7_rulesThatTell_o : ∀ w ∈ wsX7_rulesThatTell_o, w ∈ lw_tbl := List.forall_mem_append.mpr ⟨fun w h => ch_1 w (mem_r (big := tables_1_1) _ [238, 97, 59, 100, 103, 55, 224, 3, 1] (by decide +kernel) w h), List.forall_mem_append.mpr ⟨fun w h => ch_2 w (mem_r (big := tables_1_2) _ [183, 184, 237, 235] (by decide +kernel) w h), List.forall_mem_append.mpr ⟨fun w h => ch_3 w (mem_r (big := tables_1_3) _ [174] (by decide +kernel) w h), fun _ h => absurd h List.not_mem_nil⟩⟩⟩
set_option maxRecDepth 100000 in
theorem itX7_rulesThatTell : ∀ w ∈ wsX7_rulesThatTell, w ∈ lw_tbl := List.forall_mem_cons.mpr ⟨ch_3 _ (List.mem_of_getElem? (l := tables_1_3) (i := 173) (by decide +kernel)), List.forall_mem_append.mpr ⟨itX7_rulesThatTell_o, List.forall_mem_append.mpr ⟨itX70, List.forall_mem_append.mpr ⟨itX20, List.forall_mem_append.mpr ⟨itX40, List.forall_mem_append.mpr ⟨itX50, List.forall_mem_append.mpr ⟨itX2_secretBy, List.forall_mem_append.mpr ⟨itX7_bit, fun _ h => absurd h List.not_mem_nil⟩⟩⟩⟩⟩⟩⟩⟩
set_option maxRecDepth 100000 in
theorem gdX7_rulesThatTell_o : ∀ w ∈ wsX7_rulesThatTell_o, goodWord w = true := gd_o (by decide +kernel)
set_option maxRecDepth 100000 in
theorem gdX7_rulesThatTell : ∀ w ∈ wsX7_rulesThatTell, goodWord w = true := List.forall_mem_cons.mpr ⟨by decide +kernel, List.forall_mem_append.mpr ⟨gdX7_rulesThatTell_o, List.forall_mem_append.mpr ⟨gdX70, List.forall_mem_append.mpr ⟨gdX20, List.forall_mem_append.mpr ⟨gdX40, List.forall_mem_append.mpr ⟨gdX50, List.forall_mem_append.mpr ⟨gdX2_secretBy, List.forall_mem_append.mpr ⟨gdX7_bit, fun _ h => absurd h List.not_mem_nil⟩⟩⟩⟩⟩⟩⟩⟩
def wsX7_rules_o : List Cond := (([Cond.selects RX7 yX7_noGate yX7_noGate, Cond.selects RX7 yX7_isRow yX7_isRow, Cond.selects RX7 yX7_found yX7_found, Cond.selects RX7 yX7_rulesThatTell yX7_rulesThatTell, Cond.selects RX7 yX7_unfound yX7_unfound] : List Cond) ++ (([Cond.fieldLink RX7 11 "WrongWord" "rows" "[LWrongWord$Row;", Cond.initialized RX7, Cond.fieldLink RX7 25 "WrongWord" "gate" "LWrongWord$Gate;", Cond.fieldLink RX7 130 "WrongWord$Gate" "words" "I", Cond.fieldLink RX7 137 "WrongWord$Gate" "now" "LWrongWord$Moment;", Cond.fieldLink RX7 184 "WrongWord$Moment" "start" "I", Cond.fieldLink RX7 340 "WrongWord$Gate" "step" "I", Cond.fieldLink RX7 343 "WrongWord$Gate" "shrove" "I", Cond.fieldLink RX7 141 "WrongWord$Moment" "night" "I", Cond.fieldLink RX7 86 "WrongWord$Row" "items" "[I"] : List Cond) ++ (([Cond.constant RX7 136 (-1000002), Cond.constant RX7 59 (-1000001), Cond.methodLink RX7 133 yX7_noGate, Cond.instanceMethod yX7_noGate, Cond.methodLink RX7 55 yX7_isRow, Cond.instanceMethod yX7_isRow, Cond.methodLink RX7 71 yX5_findingOf, Cond.instanceMethod yX5_findingOf, Cond.selects RX5 yX5_findingOf yX5_findingOf, Cond.methodLink RX7 60 yX7_found, Cond.instanceMethod yX7_found, Cond.fieldLink RX7 333 "WrongWord" "latestFinding" "I", Cond.constant RX7 336 (-1000010), Cond.methodLink RX7 180 yX7_bit, Cond.methodLink RX7 68 yX7_unfound, Cond.instanceMethod yX7_unfound] : List Cond) ++ (([Cond.methodLink RX7 270 yX7_rulesThatTell, Cond.instanceMethod yX7_rulesThatTell, Cond.methodLink RX7 346 yX2_secretBy] : List Cond) ++ ([] : List Cond)))))
def wsX7_rules : List Cond := .code yX7_rules cX7_rules 6 (some .int) :: (wsX7_rules_o ++ (wsX70 ++ (wsX20 ++ (wsX50 ++ (wsX40 ++ (wsX7_noGate ++ (wsX7_isRow ++ (wsX5_findingOf ++ (wsX7_found ++ (wsX7_rulesThatTell ++ (wsX7_unfound ++ ([] : List Cond))))))))))))
set_option maxRecDepth 100000 in
theorem itX7_rules_o : ∀ w ∈ wsX7_rules_o, w ∈ lw_tbl := List.forall_mem_append.mpr ⟨fun w h => ch_0 w (mem_r (big := k2_sels lw_privs) _ [11, 0, 1, 19, 2] (by decide +kernel) w h), List.forall_mem_append.mpr ⟨fun w h => ch_1 w (mem_r (big := tables_1_1) _ [236, 1, 238, 107, 97, 59, 100, 103, 55, 224] (by decide +kernel) w h), List.forall_mem_append.mpr ⟨fun w h => ch_2 w (mem_r (big := tables_1_2) _ [165, 32, 161, 163, 28, 30, 50, 51, 52, 33, 35, 4, 37, 237, 42, 44] (by decide +kernel) w h), List.forall_mem_append.mpr ⟨fun w h => ch_3 w (mem_r (big := tables_1_3) _ [170, 172, 174] (by decide +kernel) w h), fun _ h => absurd h List.not_mem_nil⟩⟩⟩⟩
set_option maxRecDepth 100000 in
theorem itX7_rules : ∀ w ∈ wsX7_rules, w ∈ lw_tbl := List.forall_mem_cons.mpr ⟨ch_3 _ (List.mem_of_getElem? (l := tables_1_3) (i := 169) (by decide +kernel)), List.forall_mem_append.mpr ⟨itX7_rules_o, List.forall_mem_append.mpr ⟨itX70, List.forall_mem_append.mpr ⟨itX20, List.forall_mem_append.mpr ⟨itX50, List.forall_mem_append.mpr ⟨itX40, List.forall_mem_append.mpr ⟨itX7_noGate, List.forall_mem_append.mpr ⟨itX7_isRow, List.forall_mem_append.mpr ⟨itX5_findingOf, List.forall_mem_append.mpr ⟨itX7_found, List.forall_mem_append.mpr ⟨itX7_rulesThatTell, List.forall_mem_append.mpr ⟨itX7_unfound, fun _ h => absurd h List.not_mem_nil⟩⟩⟩⟩⟩⟩⟩⟩⟩⟩⟩⟩
set_option maxRecDepth 100000 in
theorem gdX7_rules_o : ∀ w ∈ wsX7_rules_o, goodWord w = true := gd_o (by decide +kernel)
set_option maxRecDepth 100000 in
theorem gdX7_rules : ∀ w ∈ wsX7_rules, goodWord w = true := List.forall_mem_cons.mpr ⟨by decide +kernel, List.forall_mem_append.mpr ⟨gdX7_rules_o, List.forall_mem_append.mpr ⟨gdX70, List.forall_mem_append.mpr ⟨gdX20, List.forall_mem_append.mpr ⟨gdX50, List.forall_mem_append.mpr ⟨gdX40, List.forall_mem_append.mpr ⟨gdX7_noGate, List.forall_mem_append.mpr ⟨gdX7_isRow, List.forall_mem_append.mpr ⟨gdX5_findingOf, List.forall_mem_append.mpr ⟨gdX7_found, List.forall_mem_append.mpr ⟨gdX7_rulesThatTell, List.forall_mem_append.mpr ⟨gdX7_unfound, fun _ h => absurd h List.not_mem_nil⟩⟩⟩⟩⟩⟩⟩⟩⟩⟩⟩⟩
def wsX7_fitsTold_o : List Cond := (([Cond.fieldLink RX7 25 "WrongWord" "gate" "LWrongWord$Gate;", Cond.fieldLink RX7 130 "WrongWord$Gate" "words" "I", Cond.fieldLink RX7 137 "WrongWord$Gate" "now" "LWrongWord$Moment;", Cond.fieldLink RX7 141 "WrongWord$Moment" "night" "I", Cond.fieldLink RX7 86 "WrongWord$Row" "items" "[I", Cond.initialized RX7] : List Cond) ++ (([Cond.instanceMethod yX2_wouldTake, Cond.selects RX2 yX2_wouldTake yX2_wouldTake, Cond.methodLink RX7 180 yX7_bit, Cond.static yX7_bit] : List Cond) ++ (([Cond.methodLink RX7 354 yX2_wouldTake] : List Cond) ++ ([] : List Cond))))
def wsX7_fitsTold : List Cond := .code yX7_fitsTold cX7_fitsTold 6 (some .boolean) :: (wsX7_fitsTold_o ++ (wsX70 ++ (wsX20 ++ (wsX40 ++ (wsX50 ++ (wsX2_wouldTake ++ (wsX7_bit ++ ([] : List Cond))))))))
set_option maxRecDepth 100000 in
theorem itX7_fitsTold_o : ∀ w ∈ wsX7_fitsTold_o, w ∈ lw_tbl := List.forall_mem_append.mpr ⟨fun w h => ch_1 w (mem_r (big := tables_1_1) _ [238, 107, 97, 55, 224, 1] (by decide +kernel) w h), List.forall_mem_append.mpr ⟨fun w h => ch_2 w (mem_r (big := tables_1_2) _ [220, 221, 237, 235] (by decide +kernel) w h), List.forall_mem_append.mpr ⟨fun w h => ch_3 w (mem_r (big := tables_1_3) _ [187] (by decide +kernel) w h), fun _ h => absurd h List.not_mem_nil⟩⟩⟩
set_option maxRecDepth 100000 in
theorem itX7_fitsTold : ∀ w ∈ wsX7_fitsTold, w ∈ lw_tbl := List.forall_mem_cons.mpr ⟨ch_3 _ (List.mem_of_getElem? (l := tables_1_3) (i := 186) (by decide +kernel)), List.forall_mem_append.mpr ⟨itX7_fitsTold_o, List.forall_mem_append.mpr ⟨itX70, List.forall_mem_append.mpr ⟨itX20, List.forall_mem_append.mpr ⟨itX40, List.forall_mem_append.mpr ⟨itX50, List.forall_mem_append.mpr ⟨itX2_wouldTake, List.forall_mem_append.mpr ⟨itX7_bit, fun _ h => absurd h List.not_mem_nil⟩⟩⟩⟩⟩⟩⟩⟩
set_option maxRecDepth 100000 in
theorem gdX7_fitsTold_o : ∀ w ∈ wsX7_fitsTold_o, goodWord w = true := gd_o (by decide +kernel)
set_option maxRecDepth 100000 in
theorem gdX7_fitsTold : ∀ w ∈ wsX7_fitsTold, goodWord w = true := List.forall_mem_cons.mpr ⟨by decide +kernel, List.forall_mem_append.mpr ⟨gdX7_fitsTold_o, List.forall_mem_append.mpr ⟨gdX70, List.forall_mem_append.mpr ⟨gdX20, List.forall_mem_append.mpr ⟨gdX40, List.forall_mem_append.mpr ⟨gdX50, List.forall_mem_append.mpr ⟨gdX2_wouldTake, List.forall_mem_append.mpr ⟨gdX7_bit, fun _ h => absurd h List.not_mem_nil⟩⟩⟩⟩⟩⟩⟩⟩
def wsX7_kindsThatFit_o : List Cond := (([Cond.selects RX7 yX7_fitsTold yX7_fitsTold] : List Cond) ++ (([Cond.fieldLink RX7 25 "WrongWord" "gate" "LWrongWord$Gate;", Cond.initialized RX7, Cond.fieldLink RX7 130 "WrongWord$Gate" "words" "I", Cond.fieldLink RX7 137 "WrongWord$Gate" "now" "LWrongWord$Moment;", Cond.fieldLink RX7 141 "WrongWord$Moment" "night" "I", Cond.fieldLink RX7 86 "WrongWord$Row" "items" "[I"] : List Cond) ++ (([Cond.methodLink RX7 153 yX2_secretIn, Cond.instanceMethod yX2_secretIn, Cond.selects RX2 yX2_secretIn yX2_secretIn, Cond.methodLink RX7 180 yX7_bit, Cond.static yX7_bit] : List Cond) ++ (([Cond.methodLink RX7 350 yX7_fitsTold, Cond.instanceMethod yX7_fitsTold, Cond.methodLink RX7 354 yX2_wouldTake] : List Cond) ++ ([] : List Cond)))))
def wsX7_kindsThatFit : List Cond := .code yX7_kindsThatFit cX7_kindsThatFit 6 (some .int) :: (wsX7_kindsThatFit_o ++ (wsX70 ++ (wsX20 ++ (wsX40 ++ (wsX50 ++ (wsX2_secretIn ++ (wsX7_fitsTold ++ (wsX7_bit ++ ([] : List Cond)))))))))
set_option maxRecDepth 100000 in
theorem itX7_kindsThatFit_o : ∀ w ∈ wsX7_kindsThatFit_o, w ∈ lw_tbl := List.forall_mem_append.mpr ⟨fun w h => ch_0 w (mem_r (big := k2_sels lw_privs) _ [21] (by decide +kernel) w h), List.forall_mem_append.mpr ⟨fun w h => ch_1 w (mem_r (big := tables_1_1) _ [238, 1, 107, 97, 55, 224] (by decide +kernel) w h), List.forall_mem_append.mpr ⟨fun w h => ch_2 w (mem_r (big := tables_1_2) _ [178, 179, 180, 237, 235] (by decide +kernel) w h), List.forall_mem_append.mpr ⟨fun w h => ch_3 w (mem_r (big := tables_1_3) _ [183, 185, 187] (by decide +kernel) w h), fun _ h => absurd h List.not_mem_nil⟩⟩⟩⟩
set_option maxRecDepth 100000 in
theorem itX7_kindsThatFit : ∀ w ∈ wsX7_kindsThatFit, w ∈ lw_tbl := List.forall_mem_cons.mpr ⟨ch_3 _ (List.mem_of_getElem? (l := tables_1_3) (i := 182) (by decide +kernel)), List.forall_mem_append.mpr ⟨itX7_kindsThatFit_o, List.forall_mem_append.mpr ⟨itX70, List.forall_mem_append.mpr ⟨itX20, List.forall_mem_append.mpr ⟨itX40, List.forall_mem_append.mpr ⟨itX50, List.forall_mem_append.mpr ⟨itX2_secretIn, List.forall_mem_append.mpr ⟨itX7_fitsTold, List.forall_mem_append.mpr ⟨itX7_bit, fun _ h => absurd h List.not_mem_nil⟩⟩⟩⟩⟩⟩⟩⟩⟩
set_option maxRecDepth 100000 in
theorem gdX7_kindsThatFit_o : ∀ w ∈ wsX7_kindsThatFit_o, goodWord w = true := gd_o (by decide +kernel)
set_option maxRecDepth 100000 in
theorem gdX7_kindsThatFit : ∀ w ∈ wsX7_kindsThatFit, goodWord w = true := List.forall_mem_cons.mpr ⟨by decide +kernel, List.forall_mem_append.mpr ⟨gdX7_kindsThatFit_o, List.forall_mem_append.mpr ⟨gdX70, List.forall_mem_append.mpr ⟨gdX20, List.forall_mem_append.mpr ⟨gdX40, List.forall_mem_append.mpr ⟨gdX50, List.forall_mem_append.mpr ⟨gdX2_secretIn, List.forall_mem_append.mpr ⟨gdX7_fitsTold, List.forall_mem_append.mpr ⟨gdX7_bit, fun _ h => absurd h List.not_mem_nil⟩⟩⟩⟩⟩⟩⟩⟩⟩
def wsX7_secretsThatFit_o : List Cond := (([Cond.selects RX7 yX7_fitsTold yX7_fitsTold] : List Cond) ++ (([Cond.fieldLink RX7 25 "WrongWord" "gate" "LWrongWord$Gate;", Cond.fieldLink RX7 130 "WrongWord$Gate" "words" "I", Cond.initialized RX7, Cond.fieldLink RX7 137 "WrongWord$Gate" "now" "LWrongWord$Moment;", Cond.fieldLink RX7 141 "WrongWord$Moment" "night" "I", Cond.fieldLink RX7 86 "WrongWord$Row" "items" "[I"] : List Cond) ++ (([Cond.methodLink RX7 180 yX7_bit, Cond.static yX7_bit] : List Cond) ++ (([Cond.methodLink RX7 350 yX7_fitsTold, Cond.instanceMethod yX7_fitsTold, Cond.methodLink RX7 354 yX2_wouldTake] : List Cond) ++ ([] : List Cond)))))
def wsX7_secretsThatFit : List Cond := .code yX7_secretsThatFit cX7_secretsThatFit 6 (some .int) :: (wsX7_secretsThatFit_o ++ (wsX70 ++ (wsX20 ++ (wsX40 ++ (wsX50 ++ (wsX7_fitsTold ++ (wsX7_bit ++ ([] : List Cond))))))))
set_option maxRecDepth 100000 in
theorem itX7_secretsThatFit_o : ∀ w ∈ wsX7_secretsThatFit_o, w ∈ lw_tbl := List.forall_mem_append.mpr ⟨fun w h => ch_0 w (mem_r (big := k2_sels lw_privs) _ [21] (by decide +kernel) w h), List.forall_mem_append.mpr ⟨fun w h => ch_1 w (mem_r (big := tables_1_1) _ [238, 107, 1, 97, 55, 224] (by decide +kernel) w h), List.forall_mem_append.mpr ⟨fun w h => ch_2 w (mem_r (big := tables_1_2) _ [237, 235] (by decide +kernel) w h), List.forall_mem_append.mpr ⟨fun w h => ch_3 w (mem_r (big := tables_1_3) _ [183, 185, 187] (by decide +kernel) w h), fun _ h => absurd h List.not_mem_nil⟩⟩⟩⟩
set_option maxRecDepth 100000 in
theorem itX7_secretsThatFit : ∀ w ∈ wsX7_secretsThatFit, w ∈ lw_tbl := List.forall_mem_cons.mpr ⟨ch_3 _ (List.mem_of_getElem? (l := tables_1_3) (i := 191) (by decide +kernel)), List.forall_mem_append.mpr ⟨itX7_secretsThatFit_o, List.forall_mem_append.mpr ⟨itX70, List.forall_mem_append.mpr ⟨itX20, List.forall_mem_append.mpr ⟨itX40, List.forall_mem_append.mpr ⟨itX50, List.forall_mem_append.mpr ⟨itX7_fitsTold, List.forall_mem_append.mpr ⟨itX7_bit, fun _ h => absurd h List.not_mem_nil⟩⟩⟩⟩⟩⟩⟩⟩
set_option maxRecDepth 100000 in
theorem gdX7_secretsThatFit_o : ∀ w ∈ wsX7_secretsThatFit_o, goodWord w = true := gd_o (by decide +kernel)
set_option maxRecDepth 100000 in
theorem gdX7_secretsThatFit : ∀ w ∈ wsX7_secretsThatFit, goodWord w = true := List.forall_mem_cons.mpr ⟨by decide +kernel, List.forall_mem_append.mpr ⟨gdX7_secretsThatFit_o, List.forall_mem_append.mpr ⟨gdX70, List.forall_mem_append.mpr ⟨gdX20, List.forall_mem_append.mpr ⟨gdX40, List.forall_mem_append.mpr ⟨gdX50, List.forall_mem_append.mpr ⟨gdX7_fitsTold, List.forall_mem_append.mpr ⟨gdX7_bit, fun _ h => absurd h List.not_mem_nil⟩⟩⟩⟩⟩⟩⟩⟩
def wsX7_fits_o : List Cond := (([Cond.selects RX7 yX7_isGuard yX7_isGuard, Cond.selects RX7 yX7_isRow yX7_isRow, Cond.selects RX7 yX7_found yX7_found, Cond.selects RX7 yX7_kindsThatFit yX7_kindsThatFit, Cond.selects RX7 yX7_fitsTold yX7_fitsTold, Cond.selects RX7 yX7_secretsThatFit yX7_secretsThatFit, Cond.selects RX7 yX7_unfound yX7_unfound] : List Cond) ++ (([Cond.fieldLink RX7 11 "WrongWord" "rows" "[LWrongWord$Row;", Cond.fieldLink RX7 25 "WrongWord" "gate" "LWrongWord$Gate;", Cond.fieldLink RX7 130 "WrongWord$Gate" "words" "I", Cond.fieldLink RX7 278 "WrongWord$Gate" "kinds" "[I", Cond.initialized RX7, Cond.fieldLink RX7 327 "WrongWord$Gate" "guards" "I", Cond.fieldLink RX7 137 "WrongWord$Gate" "now" "LWrongWord$Moment;", Cond.fieldLink RX7 141 "WrongWord$Moment" "night" "I", Cond.fieldLink RX7 86 "WrongWord$Row" "items" "[I"] : List Cond) ++ (([Cond.constant RX7 59 (-1000001), Cond.methodLink RX7 55 yX7_isRow, Cond.instanceMethod yX7_isRow, Cond.methodLink RX7 71 yX5_findingOf, Cond.instanceMethod yX5_findingOf, Cond.selects RX5 yX5_findingOf yX5_findingOf, Cond.methodLink RX7 60 yX7_found, Cond.instanceMethod yX7_found, Cond.fieldLink RX7 333 "WrongWord" "latestFinding" "I", Cond.constant RX7 336 (-1000010), Cond.methodLink RX7 153 yX2_secretIn, Cond.methodLink RX7 180 yX7_bit, Cond.methodLink RX7 68 yX7_unfound, Cond.instanceMethod yX7_unfound] : List Cond) ++ (([Cond.methodLink RX7 187 yX7_isGuard, Cond.instanceMethod yX7_isGuard, Cond.methodLink RX7 274 yX7_kindsThatFit, Cond.instanceMethod yX7_kindsThatFit, Cond.methodLink RX7 350 yX7_fitsTold, Cond.methodLink RX7 354 yX2_wouldTake, Cond.methodLink RX7 281 yX7_secretsThatFit, Cond.instanceMethod yX7_secretsThatFit] : List Cond) ++ ([] : List Cond)))))
def wsX7_fits : List Cond := .code yX7_fits cX7_fits 6 (some .int) :: (wsX7_fits_o ++ (wsX70 ++ (wsX20 ++ (wsX50 ++ (wsX40 ++ (wsX7_isGuard ++ (wsX7_isRow ++ (wsX5_findingOf ++ (wsX7_found ++ (wsX7_kindsThatFit ++ (wsX7_secretsThatFit ++ (wsX7_unfound ++ ([] : List Cond)))))))))))))
set_option maxRecDepth 100000 in
theorem itX7_fits_o : ∀ w ∈ wsX7_fits_o, w ∈ lw_tbl := List.forall_mem_append.mpr ⟨fun w h => ch_0 w (mem_r (big := k2_sels lw_privs) _ [14, 0, 1, 20, 21, 22, 2] (by decide +kernel) w h), List.forall_mem_append.mpr ⟨fun w h => ch_1 w (mem_r (big := tables_1_1) _ [236, 238, 107, 90, 1, 111, 97, 55, 224] (by decide +kernel) w h), List.forall_mem_append.mpr ⟨fun w h => ch_2 w (mem_r (big := tables_1_2) _ [32, 28, 30, 50, 51, 52, 33, 35, 4, 37, 178, 237, 42, 44] (by decide +kernel) w h), List.forall_mem_append.mpr ⟨fun w h => ch_3 w (mem_r (big := tables_1_3) _ [6, 8, 179, 181, 183, 187, 188, 190] (by decide +kernel) w h), fun _ h => absurd h List.not_mem_nil⟩⟩⟩⟩
set_option maxRecDepth 100000 in
theorem itX7_fits : ∀ w ∈ wsX7_fits, w ∈ lw_tbl := List.forall_mem_cons.mpr ⟨ch_3 _ (List.mem_of_getElem? (l := tables_1_3) (i := 178) (by decide +kernel)), List.forall_mem_append.mpr ⟨itX7_fits_o, List.forall_mem_append.mpr ⟨itX70, List.forall_mem_append.mpr ⟨itX20, List.forall_mem_append.mpr ⟨itX50, List.forall_mem_append.mpr ⟨itX40, List.forall_mem_append.mpr ⟨itX7_isGuard, List.forall_mem_append.mpr ⟨itX7_isRow, List.forall_mem_append.mpr ⟨itX5_findingOf, List.forall_mem_append.mpr ⟨itX7_found, List.forall_mem_append.mpr ⟨itX7_kindsThatFit, List.forall_mem_append.mpr ⟨itX7_secretsThatFit, List.forall_mem_append.mpr ⟨itX7_unfound, fun _ h => absurd h List.not_mem_nil⟩⟩⟩⟩⟩⟩⟩⟩⟩⟩⟩⟩⟩
set_option maxRecDepth 100000 in
theorem gdX7_fits_o : ∀ w ∈ wsX7_fits_o, goodWord w = true := gd_o (by decide +kernel)
set_option maxRecDepth 100000 in
theorem gdX7_fits : ∀ w ∈ wsX7_fits, goodWord w = true := List.forall_mem_cons.mpr ⟨by decide +kernel, List.forall_mem_append.mpr ⟨gdX7_fits_o, List.forall_mem_append.mpr ⟨gdX70, List.forall_mem_append.mpr ⟨gdX20, List.forall_mem_append.mpr ⟨gdX50, List.forall_mem_append.mpr ⟨gdX40, List.forall_mem_append.mpr ⟨gdX7_isGuard, List.forall_mem_append.mpr ⟨gdX7_isRow, List.forall_mem_append.mpr ⟨gdX5_findingOf, List.forall_mem_append.mpr ⟨gdX7_found, List.forall_mem_append.mpr ⟨gdX7_kindsThatFit, List.forall_mem_append.mpr ⟨gdX7_secretsThatFit, List.forall_mem_append.mpr ⟨gdX7_unfound, fun _ h => absurd h List.not_mem_nil⟩⟩⟩⟩⟩⟩⟩⟩⟩⟩⟩⟩⟩
def wsX7_commonDivisor_o : List Cond := ([] : List Cond)
def wsX7_commonDivisor : List Cond := .code yX7_commonDivisor cX7_commonDivisor 3 (some .int) :: (wsX7_commonDivisor_o ++ ([] : List Cond))
set_option maxRecDepth 100000 in
theorem itX7_commonDivisor_o : ∀ w ∈ wsX7_commonDivisor_o, w ∈ lw_tbl := fun _ h => absurd h List.not_mem_nil
set_option maxRecDepth 100000 in
theorem itX7_commonDivisor : ∀ w ∈ wsX7_commonDivisor, w ∈ lw_tbl := List.forall_mem_cons.mpr ⟨ch_3 _ (List.mem_of_getElem? (l := tables_1_3) (i := 200) (by decide +kernel)), List.forall_mem_append.mpr ⟨itX7_commonDivisor_o, fun _ h => absurd h List.not_mem_nil⟩⟩
set_option maxRecDepth 100000 in
theorem gdX7_commonDivisor_o : ∀ w ∈ wsX7_commonDivisor_o, goodWord w = true := gd_o (by decide +kernel)
set_option maxRecDepth 100000 in
theorem gdX7_commonDivisor : ∀ w ∈ wsX7_commonDivisor, goodWord w = true := List.forall_mem_cons.mpr ⟨by decide +kernel, List.forall_mem_append.mpr ⟨gdX7_commonDivisor_o, fun _ h => absurd h List.not_mem_nil⟩⟩
def wsX7_lowest_o : List Cond := ([] : List Cond)
def wsX7_lowest : List Cond := .code yX7_lowest cX7_lowest 2 (some .int) :: (wsX7_lowest_o ++ ([] : List Cond))
set_option maxRecDepth 100000 in
theorem itX7_lowest_o : ∀ w ∈ wsX7_lowest_o, w ∈ lw_tbl := fun _ h => absurd h List.not_mem_nil
set_option maxRecDepth 100000 in
theorem itX7_lowest : ∀ w ∈ wsX7_lowest, w ∈ lw_tbl := List.forall_mem_cons.mpr ⟨ch_3 _ (List.mem_of_getElem? (l := tables_1_3) (i := 203) (by decide +kernel)), List.forall_mem_append.mpr ⟨itX7_lowest_o, fun _ h => absurd h List.not_mem_nil⟩⟩
set_option maxRecDepth 100000 in
theorem gdX7_lowest_o : ∀ w ∈ wsX7_lowest_o, goodWord w = true := gd_o (by decide +kernel)
set_option maxRecDepth 100000 in
theorem gdX7_lowest : ∀ w ∈ wsX7_lowest, goodWord w = true := List.forall_mem_cons.mpr ⟨by decide +kernel, List.forall_mem_append.mpr ⟨gdX7_lowest_o, fun _ h => absurd h List.not_mem_nil⟩⟩
def wsX7_sure_o : List Cond := (([Cond.selects RX7 yX7_isWord yX7_isWord, Cond.selects RX7 yX7_isHour yX7_isHour] : List Cond) ++ (([Cond.fieldLink RX7 25 "WrongWord" "gate" "LWrongWord$Gate;", Cond.initialized RX7, Cond.fieldLink RX7 130 "WrongWord$Gate" "words" "I", Cond.initialized RJ6] : List Cond) ++ (([Cond.constant RX7 59 (-1000001), Cond.methodLink RX7 156 yX7_isWord, Cond.instanceMethod yX7_isWord, Cond.methodLink RX7 159 yX7_isHour, Cond.instanceMethod yX7_isHour] : List Cond) ++ (([Cond.methodLink RX7 242 yX3_agreeing, Cond.static yX3_agreeing, Cond.methodLink RX7 285 yJ6_bitCount_0f7a4, Cond.static yJ6_bitCount_0f7a4, Cond.methodLink RX7 290 yX3_secretsCatching, Cond.static yX3_secretsCatching, Cond.methodLink RX7 293 yX7_commonDivisor, Cond.static yX7_commonDivisor, Cond.methodLink RX7 296 yX7_lowest, Cond.static yX7_lowest] : List Cond) ++ ([] : List Cond)))))
def wsX7_sure : List Cond := .code yX7_sure cX7_sure 10 (some .int) :: (wsX7_sure_o ++ (wsX70 ++ (wsX20 ++ (wsX40 ++ (wsX7_isWord ++ (wsX7_isHour ++ (wsX3_agreeing ++ (wsJ6_bitCount_0f7a4 ++ (wsX3_secretsCatching ++ (wsX7_commonDivisor ++ (wsX7_lowest ++ ([] : List Cond))))))))))))
set_option maxRecDepth 100000 in
theorem itX7_sure_o : ∀ w ∈ wsX7_sure_o, w ∈ lw_tbl := List.forall_mem_append.mpr ⟨fun w h => ch_0 w (mem_r (big := k2_sels lw_privs) _ [12, 13] (by decide +kernel) w h), List.forall_mem_append.mpr ⟨fun w h => ch_1 w (mem_r (big := tables_1_1) _ [238, 1, 107, 12] (by decide +kernel) w h), List.forall_mem_append.mpr ⟨fun w h => ch_2 w (mem_r (big := tables_1_2) _ [32, 193, 195, 197, 199] (by decide +kernel) w h), List.forall_mem_append.mpr ⟨fun w h => ch_3 w (mem_r (big := tables_1_3) _ [88, 89, 196, 111, 197, 107, 198, 199, 201, 202] (by decide +kernel) w h), fun _ h => absurd h List.not_mem_nil⟩⟩⟩⟩
set_option maxRecDepth 100000 in
theorem itX7_sure : ∀ w ∈ wsX7_sure, w ∈ lw_tbl := List.forall_mem_cons.mpr ⟨ch_3 _ (List.mem_of_getElem? (l := tables_1_3) (i := 195) (by decide +kernel)), List.forall_mem_append.mpr ⟨itX7_sure_o, List.forall_mem_append.mpr ⟨itX70, List.forall_mem_append.mpr ⟨itX20, List.forall_mem_append.mpr ⟨itX40, List.forall_mem_append.mpr ⟨itX7_isWord, List.forall_mem_append.mpr ⟨itX7_isHour, List.forall_mem_append.mpr ⟨itX3_agreeing, List.forall_mem_append.mpr ⟨itJ6_bitCount_0f7a4, List.forall_mem_append.mpr ⟨itX3_secretsCatching, List.forall_mem_append.mpr ⟨itX7_commonDivisor, List.forall_mem_append.mpr ⟨itX7_lowest, fun _ h => absurd h List.not_mem_nil⟩⟩⟩⟩⟩⟩⟩⟩⟩⟩⟩⟩
set_option maxRecDepth 100000 in
theorem gdX7_sure_o : ∀ w ∈ wsX7_sure_o, goodWord w = true := gd_o (by decide +kernel)
set_option maxRecDepth 100000 in
theorem gdX7_sure : ∀ w ∈ wsX7_sure, goodWord w = true := List.forall_mem_cons.mpr ⟨by decide +kernel, List.forall_mem_append.mpr ⟨gdX7_sure_o, List.forall_mem_append.mpr ⟨gdX70, List.forall_mem_append.mpr ⟨gdX20, List.forall_mem_append.mpr ⟨gdX40, List.forall_mem_append.mpr ⟨gdX7_isWord, List.forall_mem_append.mpr ⟨gdX7_isHour, List.forall_mem_append.mpr ⟨gdX3_agreeing, List.forall_mem_append.mpr ⟨gdJ6_bitCount_0f7a4, List.forall_mem_append.mpr ⟨gdX3_secretsCatching, List.forall_mem_append.mpr ⟨gdX7_commonDivisor, List.forall_mem_append.mpr ⟨gdX7_lowest, fun _ h => absurd h List.not_mem_nil⟩⟩⟩⟩⟩⟩⟩⟩⟩⟩⟩⟩
def wsX7_drawn_o : List Cond := (([Cond.selects RX7 yX7_noGate yX7_noGate] : List Cond) ++ (([Cond.fieldLink RX7 25 "WrongWord" "gate" "LWrongWord$Gate;", Cond.fieldLink RX7 130 "WrongWord$Gate" "words" "I", Cond.initialized RX7] : List Cond) ++ (([Cond.constant RX7 136 (-1000002), Cond.constant RX7 59 (-1000001), Cond.methodLink RX7 133 yX7_noGate, Cond.instanceMethod yX7_noGate, Cond.static yX7_rest, Cond.methodLink RX7 168 yX2_catches, Cond.instanceMethod yX2_catches, Cond.selects RX2 yX2_catches yX2_catches] : List Cond) ++ (([Cond.constant RX7 299 (999999), Cond.constantLong RX7 300 (16807), Cond.constantLong RX7 302 (2147483647), Cond.methodLink RX7 304 yX7_rest] : List Cond) ++ ([] : List Cond)))))
def wsX7_drawn : List Cond := .code yX7_drawn cX7_drawn 10 (some .int) :: (wsX7_drawn_o ++ (wsX70 ++ (wsX20 ++ (wsX40 ++ (wsX7_noGate ++ (wsX7_rest ++ (wsX2_catches ++ ([] : List Cond))))))))
set_option maxRecDepth 100000 in
theorem itX7_drawn_o : ∀ w ∈ wsX7_drawn_o, w ∈ lw_tbl := List.forall_mem_append.mpr ⟨fun w h => ch_0 w (mem_r (big := k2_sels lw_privs) _ [11] (by decide +kernel) w h), List.forall_mem_append.mpr ⟨fun w h => ch_1 w (mem_r (big := tables_1_1) _ [238, 107, 1] (by decide +kernel) w h), List.forall_mem_append.mpr ⟨fun w h => ch_2 w (mem_r (big := tables_1_2) _ [165, 32, 161, 163, 187, 205, 206, 207] (by decide +kernel) w h), List.forall_mem_append.mpr ⟨fun w h => ch_3 w (mem_r (big := tables_1_3) _ [208, 209, 210, 211] (by decide +kernel) w h), fun _ h => absurd h List.not_mem_nil⟩⟩⟩⟩
set_option maxRecDepth 100000 in
theorem itX7_drawn : ∀ w ∈ wsX7_drawn, w ∈ lw_tbl := List.forall_mem_cons.mpr ⟨ch_3 _ (List.mem_of_getElem? (l := tables_1_3) (i := 207) (by decide +kernel)), List.forall_mem_append.mpr ⟨itX7_drawn_o, List.forall_mem_append.mpr ⟨itX70, List.forall_mem_append.mpr ⟨itX20, List.forall_mem_append.mpr ⟨itX40, List.forall_mem_append.mpr ⟨itX7_noGate, List.forall_mem_append.mpr ⟨itX7_rest, List.forall_mem_append.mpr ⟨itX2_catches, fun _ h => absurd h List.not_mem_nil⟩⟩⟩⟩⟩⟩⟩⟩
set_option maxRecDepth 100000 in
theorem gdX7_drawn_o : ∀ w ∈ wsX7_drawn_o, goodWord w = true := gd_o (by decide +kernel)
set_option maxRecDepth 100000 in
theorem gdX7_drawn : ∀ w ∈ wsX7_drawn, goodWord w = true := List.forall_mem_cons.mpr ⟨by decide +kernel, List.forall_mem_append.mpr ⟨gdX7_drawn_o, List.forall_mem_append.mpr ⟨gdX70, List.forall_mem_append.mpr ⟨gdX20, List.forall_mem_append.mpr ⟨gdX40, List.forall_mem_append.mpr ⟨gdX7_noGate, List.forall_mem_append.mpr ⟨gdX7_rest, List.forall_mem_append.mpr ⟨gdX2_catches, fun _ h => absurd h List.not_mem_nil⟩⟩⟩⟩⟩⟩⟩⟩
def wsX7_image_o : List Cond := (([Cond.selects RX7 yX7_noGate yX7_noGate] : List Cond) ++ (([Cond.fieldLink RX7 25 "WrongWord" "gate" "LWrongWord$Gate;", Cond.initialized RX7, Cond.fieldLink RX7 130 "WrongWord$Gate" "words" "I", Cond.initialized RX2] : List Cond) ++ (([Cond.constant RX7 59 (-1000001), Cond.constant RX7 136 (-1000002), Cond.fieldLink RX7 36 "WrongWord" "images" "[LWrongWord$Gate;", Cond.methodLink RX7 133 yX7_noGate, Cond.instanceMethod yX7_noGate, Cond.methodLink RX7 123 yX2_become, Cond.instanceMethod yX2_become, Cond.selects RX2 yX2_become yX2_become] : List Cond) ++ ([] : List Cond))))
def wsX7_image : List Cond := .code yX7_image cX7_image 2 (some .int) :: (wsX7_image_o ++ (wsX70 ++ (wsX20 ++ (wsX40 ++ (wsX7_noGate ++ (wsX2_become ++ ([] : List Cond)))))))
set_option maxRecDepth 100000 in
theorem itX7_image_o : ∀ w ∈ wsX7_image_o, w ∈ lw_tbl := List.forall_mem_append.mpr ⟨fun w h => ch_0 w (mem_r (big := k2_sels lw_privs) _ [11] (by decide +kernel) w h), List.forall_mem_append.mpr ⟨fun w h => ch_1 w (mem_r (big := tables_1_1) _ [238, 1, 107, 3] (by decide +kernel) w h), List.forall_mem_append.mpr ⟨fun w h => ch_2 w (mem_r (big := tables_1_2) _ [32, 165, 0, 161, 163, 139, 140, 141] (by decide +kernel) w h), fun _ h => absurd h List.not_mem_nil⟩⟩⟩
set_option maxRecDepth 100000 in
theorem itX7_image : ∀ w ∈ wsX7_image, w ∈ lw_tbl := List.forall_mem_cons.mpr ⟨ch_3 _ (List.mem_of_getElem? (l := tables_1_3) (i := 215) (by decide +kernel)), List.forall_mem_append.mpr ⟨itX7_image_o, List.forall_mem_append.mpr ⟨itX70, List.forall_mem_append.mpr ⟨itX20, List.forall_mem_append.mpr ⟨itX40, List.forall_mem_append.mpr ⟨itX7_noGate, List.forall_mem_append.mpr ⟨itX2_become, fun _ h => absurd h List.not_mem_nil⟩⟩⟩⟩⟩⟩⟩
set_option maxRecDepth 100000 in
theorem gdX7_image_o : ∀ w ∈ wsX7_image_o, goodWord w = true := gd_o (by decide +kernel)
set_option maxRecDepth 100000 in
theorem gdX7_image : ∀ w ∈ wsX7_image, goodWord w = true := List.forall_mem_cons.mpr ⟨by decide +kernel, List.forall_mem_append.mpr ⟨gdX7_image_o, List.forall_mem_append.mpr ⟨gdX70, List.forall_mem_append.mpr ⟨gdX20, List.forall_mem_append.mpr ⟨gdX40, List.forall_mem_append.mpr ⟨gdX7_noGate, List.forall_mem_append.mpr ⟨gdX2_become, fun _ h => absurd h List.not_mem_nil⟩⟩⟩⟩⟩⟩⟩
def wsX7_restore_o : List Cond := (([Cond.fieldLink RX7 130 "WrongWord$Gate" "words" "I", Cond.fieldLink RX7 25 "WrongWord" "gate" "LWrongWord$Gate;", Cond.fieldLink RX7 32 "WrongWord" "acts" "LWrongWord$Acts;", Cond.initialized RX2, Cond.initialized RX0] : List Cond) ++ (([Cond.constant RX7 59 (-1000001), Cond.fieldLink RX7 36 "WrongWord" "images" "[LWrongWord$Gate;", Cond.constant RX7 136 (-1000002), Cond.methodLink RX7 123 yX2_become, Cond.instanceMethod yX2_become, Cond.selects RX2 yX2_become yX2_become, Cond.methodLink RX7 127 yX0_forget, Cond.instanceMethod yX0_forget, Cond.selects RX0 yX0_forget yX0_forget] : List Cond) ++ ([] : List Cond)))
def wsX7_restore : List Cond := .code yX7_restore cX7_restore 2 (some .int) :: (wsX7_restore_o ++ (wsX70 ++ (wsX20 ++ (wsX40 ++ (wsX00 ++ (wsX2_become ++ (wsX0_forget ++ ([] : List Cond))))))))
set_option maxRecDepth 100000 in
theorem itX7_restore_o : ∀ w ∈ wsX7_restore_o, w ∈ lw_tbl := List.forall_mem_append.mpr ⟨fun w h => ch_1 w (mem_r (big := tables_1_1) _ [107, 238, 239, 3, 5] (by decide +kernel) w h), List.forall_mem_append.mpr ⟨fun w h => ch_2 w (mem_r (big := tables_1_2) _ [32, 0, 165, 139, 140, 141, 149, 150, 151] (by decide +kernel) w h), fun _ h => absurd h List.not_mem_nil⟩⟩
set_option maxRecDepth 100000 in
theorem itX7_restore : ∀ w ∈ wsX7_restore, w ∈ lw_tbl := List.forall_mem_cons.mpr ⟨ch_3 _ (List.mem_of_getElem? (l := tables_1_3) (i := 219) (by decide +kernel)), List.forall_mem_append.mpr ⟨itX7_restore_o, List.forall_mem_append.mpr ⟨itX70, List.forall_mem_append.mpr ⟨itX20, List.forall_mem_append.mpr ⟨itX40, List.forall_mem_append.mpr ⟨itX00, List.forall_mem_append.mpr ⟨itX2_become, List.forall_mem_append.mpr ⟨itX0_forget, fun _ h => absurd h List.not_mem_nil⟩⟩⟩⟩⟩⟩⟩⟩
set_option maxRecDepth 100000 in
theorem gdX7_restore_o : ∀ w ∈ wsX7_restore_o, goodWord w = true := gd_o (by decide +kernel)
set_option maxRecDepth 100000 in
theorem gdX7_restore : ∀ w ∈ wsX7_restore, goodWord w = true := List.forall_mem_cons.mpr ⟨by decide +kernel, List.forall_mem_append.mpr ⟨gdX7_restore_o, List.forall_mem_append.mpr ⟨gdX70, List.forall_mem_append.mpr ⟨gdX20, List.forall_mem_append.mpr ⟨gdX40, List.forall_mem_append.mpr ⟨gdX00, List.forall_mem_append.mpr ⟨gdX2_become, List.forall_mem_append.mpr ⟨gdX0_forget, fun _ h => absurd h List.not_mem_nil⟩⟩⟩⟩⟩⟩⟩⟩
def wsX7_kind_o : List Cond := (([Cond.selects RX7 yX7_isGuard yX7_isGuard] : List Cond) ++ (([Cond.fieldLink RX7 25 "WrongWord" "gate" "LWrongWord$Gate;", Cond.fieldLink RX7 278 "WrongWord$Gate" "kinds" "[I", Cond.initialized RX7, Cond.fieldLink RX7 327 "WrongWord$Gate" "guards" "I"] : List Cond) ++ (([Cond.constant RX7 59 (-1000001)] : List Cond) ++ (([Cond.methodLink RX7 187 yX7_isGuard, Cond.instanceMethod yX7_isGuard] : List Cond) ++ ([] : List Cond)))))
def wsX7_kind : List Cond := .code yX7_kind cX7_kind 2 (some .int) :: (wsX7_kind_o ++ (wsX70 ++ (wsX20 ++ (wsX7_isGuard ++ ([] : List Cond)))))
set_option maxRecDepth 100000 in
theorem itX7_kind_o : ∀ w ∈ wsX7_kind_o, w ∈ lw_tbl := List.forall_mem_append.mpr ⟨fun w h => ch_0 w (mem_r (big := k2_sels lw_privs) _ [14] (by decide +kernel) w h), List.forall_mem_append.mpr ⟨fun w h => ch_1 w (mem_r (big := tables_1_1) _ [238, 90, 1, 111] (by decide +kernel) w h), List.forall_mem_append.mpr ⟨fun w h => ch_2 w (mem_r (big := tables_1_2) _ [32] (by decide +kernel) w h), List.forall_mem_append.mpr ⟨fun w h => ch_3 w (mem_r (big := tables_1_3) _ [6, 8] (by decide +kernel) w h), fun _ h => absurd h List.not_mem_nil⟩⟩⟩⟩
set_option maxRecDepth 100000 in
theorem itX7_kind : ∀ w ∈ wsX7_kind, w ∈ lw_tbl := List.forall_mem_cons.mpr ⟨ch_3 _ (List.mem_of_getElem? (l := tables_1_3) (i := 223) (by decide +kernel)), List.forall_mem_append.mpr ⟨itX7_kind_o, List.forall_mem_append.mpr ⟨itX70, List.forall_mem_append.mpr ⟨itX20, List.forall_mem_append.mpr ⟨itX7_isGuard, fun _ h => absurd h List.not_mem_nil⟩⟩⟩⟩⟩
set_option maxRecDepth 100000 in
theorem gdX7_kind_o : ∀ w ∈ wsX7_kind_o, goodWord w = true := gd_o (by decide +kernel)
set_option maxRecDepth 100000 in
theorem gdX7_kind : ∀ w ∈ wsX7_kind, goodWord w = true := List.forall_mem_cons.mpr ⟨by decide +kernel, List.forall_mem_append.mpr ⟨gdX7_kind_o, List.forall_mem_append.mpr ⟨gdX70, List.forall_mem_append.mpr ⟨gdX20, List.forall_mem_append.mpr ⟨gdX7_isGuard, fun _ h => absurd h List.not_mem_nil⟩⟩⟩⟩⟩
def wsX7_as_o : List Cond := (([Cond.selects RX7 yX7_isGuard yX7_isGuard, Cond.selects RX7 yX7_unfound yX7_unfound, Cond.selects RX7 yX7_found yX7_found] : List Cond) ++ (([Cond.fieldLink RX7 25 "WrongWord" "gate" "LWrongWord$Gate;", Cond.fieldLink RX7 278 "WrongWord$Gate" "kinds" "[I", Cond.initialized RX7, Cond.fieldLink RX7 327 "WrongWord$Gate" "guards" "I", Cond.initialized RX1] : List Cond) ++ (([Cond.constant RX7 59 (-1000001), Cond.methodLink RX7 68 yX7_unfound, Cond.instanceMethod yX7_unfound, Cond.fieldLink RX7 333 "WrongWord" "latestFinding" "I", Cond.methodLink RX7 60 yX7_found, Cond.instanceMethod yX7_found, Cond.constant RX7 336 (-1000010)] : List Cond) ++ (([Cond.methodLink RX7 187 yX7_isGuard, Cond.instanceMethod yX7_isGuard, Cond.methodLink RX7 307 yX1_isA, Cond.static yX1_isA] : List Cond) ++ ([] : List Cond)))))
def wsX7_as : List Cond := .code yX7_as cX7_as 3 (some .int) :: (wsX7_as_o ++ (wsX70 ++ (wsX20 ++ (wsX7_isGuard ++ (wsX1_isA ++ (wsX7_unfound ++ (wsX7_found ++ ([] : List Cond))))))))
set_option maxRecDepth 100000 in
theorem itX7_as_o : ∀ w ∈ wsX7_as_o, w ∈ lw_tbl := List.forall_mem_append.mpr ⟨fun w h => ch_0 w (mem_r (big := k2_sels lw_privs) _ [14, 2, 1] (by decide +kernel) w h), List.forall_mem_append.mpr ⟨fun w h => ch_1 w (mem_r (big := tables_1_1) _ [238, 90, 1, 111, 7] (by decide +kernel) w h), List.forall_mem_append.mpr ⟨fun w h => ch_2 w (mem_r (big := tables_1_2) _ [32, 42, 44, 4, 33, 35, 37] (by decide +kernel) w h), List.forall_mem_append.mpr ⟨fun w h => ch_3 w (mem_r (big := tables_1_3) _ [6, 8, 228, 229] (by decide +kernel) w h), fun _ h => absurd h List.not_mem_nil⟩⟩⟩⟩
set_option maxRecDepth 100000 in
theorem itX7_as : ∀ w ∈ wsX7_as, w ∈ lw_tbl := List.forall_mem_cons.mpr ⟨ch_3 _ (List.mem_of_getElem? (l := tables_1_3) (i := 227) (by decide +kernel)), List.forall_mem_append.mpr ⟨itX7_as_o, List.forall_mem_append.mpr ⟨itX70, List.forall_mem_append.mpr ⟨itX20, List.forall_mem_append.mpr ⟨itX7_isGuard, List.forall_mem_append.mpr ⟨itX1_isA, List.forall_mem_append.mpr ⟨itX7_unfound, List.forall_mem_append.mpr ⟨itX7_found, fun _ h => absurd h List.not_mem_nil⟩⟩⟩⟩⟩⟩⟩⟩
set_option maxRecDepth 100000 in
theorem gdX7_as_o : ∀ w ∈ wsX7_as_o, goodWord w = true := gd_o (by decide +kernel)
set_option maxRecDepth 100000 in
theorem gdX7_as : ∀ w ∈ wsX7_as, goodWord w = true := List.forall_mem_cons.mpr ⟨by decide +kernel, List.forall_mem_append.mpr ⟨gdX7_as_o, List.forall_mem_append.mpr ⟨gdX70, List.forall_mem_append.mpr ⟨gdX20, List.forall_mem_append.mpr ⟨gdX7_isGuard, List.forall_mem_append.mpr ⟨gdX1_isA, List.forall_mem_append.mpr ⟨gdX7_unfound, List.forall_mem_append.mpr ⟨gdX7_found, fun _ h => absurd h List.not_mem_nil⟩⟩⟩⟩⟩⟩⟩⟩
def wsX7_ask_o : List Cond := (([Cond.selects RX7 yX7_isGuard yX7_isGuard] : List Cond) ++ (([Cond.fieldLink RX7 25 "WrongWord" "gate" "LWrongWord$Gate;", Cond.fieldLink RX7 278 "WrongWord$Gate" "kinds" "[I", Cond.fieldLink RX7 209 "WrongWord$Gate" "fees" "[I", Cond.fieldLink RX7 137 "WrongWord$Gate" "now" "LWrongWord$Moment;", Cond.fieldLink RX7 212 "WrongWord$Moment" "took" "[I", Cond.initialized RX7, Cond.fieldLink RX7 327 "WrongWord$Gate" "guards" "I"] : List Cond) ++ (([Cond.constant RX7 59 (-1000001), Cond.fieldLink RX7 50 "WrongWord" "asks" "LWrongWord$Asks;"] : List Cond) ++ (([Cond.methodLink RX7 187 yX7_isGuard, Cond.instanceMethod yX7_isGuard, Cond.methodLink RX7 310 yX1_turnTo, Cond.instanceMethod yX1_turnTo, Cond.selects RX1 yX1_turnTo yX1_turnTo] : List Cond) ++ (([Cond.methodLink RX7 314 yX1_answer, Cond.instanceMethod yX1_answer, Cond.selects RX1 yX1_answer yX1_answer] : List Cond) ++ ([] : List Cond))))))
def wsX7_ask : List Cond := .code yX7_ask cX7_ask 3 (some .int) :: (wsX7_ask_o ++ (wsX70 ++ (wsX20 ++ (wsX40 ++ (wsX10 ++ (wsX7_isGuard ++ (wsX1_turnTo ++ (wsX1_answer ++ ([] : List Cond)))))))))
set_option maxRecDepth 100000 in
theorem itX7_ask_o : ∀ w ∈ wsX7_ask_o, w ∈ lw_tbl := List.forall_mem_append.mpr ⟨fun w h => ch_0 w (mem_r (big := k2_sels lw_privs) _ [14] (by decide +kernel) w h), List.forall_mem_append.mpr ⟨fun w h => ch_1 w (mem_r (big := tables_1_1) _ [238, 90, 93, 97, 42, 1, 111] (by decide +kernel) w h), List.forall_mem_append.mpr ⟨fun w h => ch_2 w (mem_r (big := tables_1_2) _ [32, 2] (by decide +kernel) w h), List.forall_mem_append.mpr ⟨fun w h => ch_3 w (mem_r (big := tables_1_3) _ [6, 8, 237, 238, 239] (by decide +kernel) w h), List.forall_mem_append.mpr ⟨fun w h => ch_4 w (mem_r (big := tables_1_4) _ [1, 2, 3] (by decide +kernel) w h), fun _ h => absurd h List.not_mem_nil⟩⟩⟩⟩⟩
set_option maxRecDepth 100000 in
theorem itX7_ask : ∀ w ∈ wsX7_ask, w ∈ lw_tbl := List.forall_mem_cons.mpr ⟨ch_3 _ (List.mem_of_getElem? (l := tables_1_3) (i := 236) (by decide +kernel)), List.forall_mem_append.mpr ⟨itX7_ask_o, List.forall_mem_append.mpr ⟨itX70, List.forall_mem_append.mpr ⟨itX20, List.forall_mem_append.mpr ⟨itX40, List.forall_mem_append.mpr ⟨itX10, List.forall_mem_append.mpr ⟨itX7_isGuard, List.forall_mem_append.mpr ⟨itX1_turnTo, List.forall_mem_append.mpr ⟨itX1_answer, fun _ h => absurd h List.not_mem_nil⟩⟩⟩⟩⟩⟩⟩⟩⟩
set_option maxRecDepth 100000 in
theorem gdX7_ask_o : ∀ w ∈ wsX7_ask_o, goodWord w = true := gd_o (by decide +kernel)
set_option maxRecDepth 100000 in
theorem gdX7_ask : ∀ w ∈ wsX7_ask, goodWord w = true := List.forall_mem_cons.mpr ⟨by decide +kernel, List.forall_mem_append.mpr ⟨gdX7_ask_o, List.forall_mem_append.mpr ⟨gdX70, List.forall_mem_append.mpr ⟨gdX20, List.forall_mem_append.mpr ⟨gdX40, List.forall_mem_append.mpr ⟨gdX10, List.forall_mem_append.mpr ⟨gdX7_isGuard, List.forall_mem_append.mpr ⟨gdX1_turnTo, List.forall_mem_append.mpr ⟨gdX1_answer, fun _ h => absurd h List.not_mem_nil⟩⟩⟩⟩⟩⟩⟩⟩⟩
def wsX7_trace_o : List Cond := (([Cond.fieldLink RX7 317 "WrongWord$Asks" "begun" "I", Cond.fieldLink RX7 320 "WrongWord$Asks" "bodies" "[I"] : List Cond) ++ (([Cond.fieldLink RX7 50 "WrongWord" "asks" "LWrongWord$Asks;", Cond.constant RX7 175 (-1000000)] : List Cond) ++ ([] : List Cond)))
def wsX7_trace : List Cond := .code yX7_trace cX7_trace 2 (some .int) :: (wsX7_trace_o ++ (wsX70 ++ (wsX10 ++ ([] : List Cond))))
set_option maxRecDepth 100000 in
theorem itX7_trace_o : ∀ w ∈ wsX7_trace_o, w ∈ lw_tbl := List.forall_mem_append.mpr ⟨fun w h => ch_1 w (mem_r (big := tables_1_1) _ [200, 198] (by decide +kernel) w h), List.forall_mem_append.mpr ⟨fun w h => ch_2 w (mem_r (big := tables_1_2) _ [2, 229] (by decide +kernel) w h), fun _ h => absurd h List.not_mem_nil⟩⟩
set_option maxRecDepth 100000 in
theorem itX7_trace : ∀ w ∈ wsX7_trace, w ∈ lw_tbl := List.forall_mem_cons.mpr ⟨ch_4 _ (List.mem_of_getElem? (l := tables_1_4) (i := 27) (by decide +kernel)), List.forall_mem_append.mpr ⟨itX7_trace_o, List.forall_mem_append.mpr ⟨itX70, List.forall_mem_append.mpr ⟨itX10, fun _ h => absurd h List.not_mem_nil⟩⟩⟩⟩
set_option maxRecDepth 100000 in
theorem gdX7_trace_o : ∀ w ∈ wsX7_trace_o, goodWord w = true := gd_o (by decide +kernel)
set_option maxRecDepth 100000 in
theorem gdX7_trace : ∀ w ∈ wsX7_trace, goodWord w = true := List.forall_mem_cons.mpr ⟨by decide +kernel, List.forall_mem_append.mpr ⟨gdX7_trace_o, List.forall_mem_append.mpr ⟨gdX70, List.forall_mem_append.mpr ⟨gdX10, fun _ h => absurd h List.not_mem_nil⟩⟩⟩⟩
def wsX7_rowsThere_o : List Cond := (([Cond.fieldLink RX7 11 "WrongWord" "rows" "[LWrongWord$Row;", Cond.fieldLink RX7 78 "WrongWord$Row" "lane" "I"] : List Cond) ++ ([] : List Cond))
def wsX7_rowsThere : List Cond := .code yX7_rowsThere cX7_rowsThere 3 (some .int) :: (wsX7_rowsThere_o ++ (wsX70 ++ (wsX50 ++ ([] : List Cond))))
set_option maxRecDepth 100000 in
theorem itX7_rowsThere_o : ∀ w ∈ wsX7_rowsThere_o, w ∈ lw_tbl := List.forall_mem_append.mpr ⟨fun w h => ch_1 w (mem_r (big := tables_1_1) _ [236, 226] (by decide +kernel) w h), fun _ h => absurd h List.not_mem_nil⟩
set_option maxRecDepth 100000 in
theorem itX7_rowsThere : ∀ w ∈ wsX7_rowsThere, w ∈ lw_tbl := List.forall_mem_cons.mpr ⟨ch_4 _ (List.mem_of_getElem? (l := tables_1_4) (i := 35) (by decide +kernel)), List.forall_mem_append.mpr ⟨itX7_rowsThere_o, List.forall_mem_append.mpr ⟨itX70, List.forall_mem_append.mpr ⟨itX50, fun _ h => absurd h List.not_mem_nil⟩⟩⟩⟩
set_option maxRecDepth 100000 in
theorem gdX7_rowsThere_o : ∀ w ∈ wsX7_rowsThere_o, goodWord w = true := gd_o (by decide +kernel)
set_option maxRecDepth 100000 in
theorem gdX7_rowsThere : ∀ w ∈ wsX7_rowsThere, goodWord w = true := List.forall_mem_cons.mpr ⟨by decide +kernel, List.forall_mem_append.mpr ⟨gdX7_rowsThere_o, List.forall_mem_append.mpr ⟨gdX70, List.forall_mem_append.mpr ⟨gdX50, fun _ h => absurd h List.not_mem_nil⟩⟩⟩⟩
def wsX7_count_o : List Cond := (([Cond.selects RX7 yX7_rowsThere yX7_rowsThere] : List Cond) ++ (([Cond.fieldLink RX7 25 "WrongWord" "gate" "LWrongWord$Gate;", Cond.fieldLink RX7 130 "WrongWord$Gate" "words" "I", Cond.fieldLink RX7 327 "WrongWord$Gate" "guards" "I", Cond.fieldLink RX7 137 "WrongWord$Gate" "now" "LWrongWord$Moment;", Cond.fieldLink RX7 141 "WrongWord$Moment" "night" "I", Cond.fieldLink RX7 162 "WrongWord$Moment" "tries" "I", Cond.fieldLink RX7 190 "WrongWord$Moment" "there" "I", Cond.fieldLink RX7 32 "WrongWord" "acts" "LWrongWord$Acts;", Cond.fieldLink RX7 197 "WrongWord$Acts" "kept" "I", Cond.fieldLink RX7 18 "WrongWord" "tape" "LWrongWord$Tape;", Cond.fieldLink RX7 102 "WrongWord$Tape" "length" "I", Cond.fieldLink RX7 184 "WrongWord$Moment" "start" "I", Cond.initialized RX7, Cond.fieldLink RX7 11 "WrongWord" "rows" "[LWrongWord$Row;", Cond.fieldLink RX7 78 "WrongWord$Row" "lane" "I", Cond.initialized RX4] : List Cond) ++ (([Cond.constant RX7 59 (-1000001)] : List Cond) ++ (([Cond.methodLink RX7 323 yX7_rowsThere, Cond.instanceMethod yX7_rowsThere, Cond.methodLink RX7 330 yX4_tookInAll, Cond.instanceMethod yX4_tookInAll, Cond.selects RX4 yX4_tookInAll yX4_tookInAll] : List Cond) ++ ([] : List Cond)))))
def wsX7_count : List Cond := .code yX7_count cX7_count 2 (some .int) :: (wsX7_count_o ++ (wsX70 ++ (wsX20 ++ (wsX40 ++ (wsX00 ++ (wsX60 ++ (wsX50 ++ (wsX7_rowsThere ++ (wsX4_tookInAll ++ ([] : List Cond))))))))))
set_option maxRecDepth 100000 in
theorem itX7_count_o : ∀ w ∈ wsX7_count_o, w ∈ lw_tbl := List.forall_mem_append.mpr ⟨fun w h => ch_0 w (mem_r (big := k2_sels lw_privs) _ [26] (by decide +kernel) w h), List.forall_mem_append.mpr ⟨fun w h => ch_1 w (mem_r (big := tables_1_1) _ [238, 107, 111, 97, 55, 65, 62, 239, 169, 237, 133, 59, 1, 236, 226, 4] (by decide +kernel) w h), List.forall_mem_append.mpr ⟨fun w h => ch_2 w (mem_r (big := tables_1_2) _ [32] (by decide +kernel) w h), List.forall_mem_append.mpr ⟨fun w h => ch_4 w (mem_r (big := tables_1_4) _ [32, 34, 36, 37, 38] (by decide +kernel) w h), fun _ h => absurd h List.not_mem_nil⟩⟩⟩⟩
set_option maxRecDepth 100000 in
theorem itX7_count : ∀ w ∈ wsX7_count, w ∈ lw_tbl := List.forall_mem_cons.mpr ⟨ch_4 _ (List.mem_of_getElem? (l := tables_1_4) (i := 31) (by decide +kernel)), List.forall_mem_append.mpr ⟨itX7_count_o, List.forall_mem_append.mpr ⟨itX70, List.forall_mem_append.mpr ⟨itX20, List.forall_mem_append.mpr ⟨itX40, List.forall_mem_append.mpr ⟨itX00, List.forall_mem_append.mpr ⟨itX60, List.forall_mem_append.mpr ⟨itX50, List.forall_mem_append.mpr ⟨itX7_rowsThere, List.forall_mem_append.mpr ⟨itX4_tookInAll, fun _ h => absurd h List.not_mem_nil⟩⟩⟩⟩⟩⟩⟩⟩⟩⟩
set_option maxRecDepth 100000 in
theorem gdX7_count_o : ∀ w ∈ wsX7_count_o, goodWord w = true := gd_o (by decide +kernel)
set_option maxRecDepth 100000 in
theorem gdX7_count : ∀ w ∈ wsX7_count, goodWord w = true := List.forall_mem_cons.mpr ⟨by decide +kernel, List.forall_mem_append.mpr ⟨gdX7_count_o, List.forall_mem_append.mpr ⟨gdX70, List.forall_mem_append.mpr ⟨gdX20, List.forall_mem_append.mpr ⟨gdX40, List.forall_mem_append.mpr ⟨gdX00, List.forall_mem_append.mpr ⟨gdX60, List.forall_mem_append.mpr ⟨gdX50, List.forall_mem_append.mpr ⟨gdX7_rowsThere, List.forall_mem_append.mpr ⟨gdX4_tookInAll, fun _ h => absurd h List.not_mem_nil⟩⟩⟩⟩⟩⟩⟩⟩⟩⟩
def wsX7_status_o : List Cond := (([Cond.fieldLink RX7 333 "WrongWord" "latestFinding" "I"] : List Cond) ++ ([] : List Cond))
def wsX7_status : List Cond := .code yX7_status cX7_status 1 (some .int) :: (wsX7_status_o ++ (wsX70 ++ ([] : List Cond)))
set_option maxRecDepth 100000 in
theorem itX7_status_o : ∀ w ∈ wsX7_status_o, w ∈ lw_tbl := List.forall_mem_append.mpr ⟨fun w h => ch_2 w (mem_r (big := tables_1_2) _ [4] (by decide +kernel) w h), fun _ h => absurd h List.not_mem_nil⟩
set_option maxRecDepth 100000 in
theorem itX7_status : ∀ w ∈ wsX7_status, w ∈ lw_tbl := List.forall_mem_cons.mpr ⟨ch_4 _ (List.mem_of_getElem? (l := tables_1_4) (i := 43) (by decide +kernel)), List.forall_mem_append.mpr ⟨itX7_status_o, List.forall_mem_append.mpr ⟨itX70, fun _ h => absurd h List.not_mem_nil⟩⟩⟩
set_option maxRecDepth 100000 in
theorem gdX7_status_o : ∀ w ∈ wsX7_status_o, goodWord w = true := gd_o (by decide +kernel)
set_option maxRecDepth 100000 in
theorem gdX7_status : ∀ w ∈ wsX7_status, goodWord w = true := List.forall_mem_cons.mpr ⟨by decide +kernel, List.forall_mem_append.mpr ⟨gdX7_status_o, List.forall_mem_append.mpr ⟨gdX70, fun _ h => absurd h List.not_mem_nil⟩⟩⟩
def wsX8_init_o : List Cond := (([Cond.instanceMethod objectInit, Cond.code objectInit ⟨#[0xb1]⟩ 1 none, Cond.arrayClass .int] : List Cond) ++ (([Cond.methodLink RX8 1 objectInit, Cond.fieldLink RX8 7 "WrongWordModel" "lane" "[I", Cond.fieldLink RX8 13 "WrongWordModel" "many" "[I", Cond.fieldLink RX8 16 "WrongWordModel" "items" "[I", Cond.fieldLink RX8 19 "WrongWordModel" "spare" "[I", Cond.fieldLink RX8 22 "WrongWordModel" "tape" "[I", Cond.fieldLink RX8 25 "WrongWordModel" "now" "[I", Cond.fieldLink RX8 28 "WrongWordModel" "draft" "[I", Cond.fieldLink RX8 31 "WrongWordModel" "tried" "[I", Cond.fieldLink RX8 34 "WrongWordModel" "past" "[I", Cond.fieldLink RX8 37 "WrongWordModel" "images" "[I", Cond.arrayClass .boolean, Cond.fieldLink RX8 40 "WrongWordModel" "kept" "[Z", Cond.fieldLink RX8 44 "WrongWordModel" "men" "[I", Cond.fieldLink RX8 47 "WrongWordModel" "trace" "[I", Cond.constant RX8 50 (-1000000)] : List Cond) ++ ([] : List Cond)))
def wsX8_init : List Cond := .code yX8_init cX8_init 2 none :: (wsX8_init_o ++ (wsX80 ++ ([] : List Cond)))
set_option maxRecDepth 100000 in
theorem itX8_init_o : ∀ w ∈ wsX8_init_o, w ∈ lw_tbl := List.forall_mem_append.mpr ⟨fun w h => ch_1 w (mem_r (big := tables_1_1) _ [19, 20, 83] (by decide +kernel) w h), List.forall_mem_append.mpr ⟨fun w h => ch_4 w (mem_r (big := tables_1_4) _ [49, 51, 52, 53, 54, 56, 64, 65, 66, 67, 69, 121, 70, 71, 72, 50] (by decide +kernel) w h), fun _ h => absurd h List.not_mem_nil⟩⟩
set_option maxRecDepth 100000 in
theorem itX8_init : ∀ w ∈ wsX8_init, w ∈ lw_tbl := List.forall_mem_cons.mpr ⟨ch_4 _ (List.mem_of_getElem? (l := tables_1_4) (i := 48) (by decide +kernel)), List.forall_mem_append.mpr ⟨itX8_init_o, List.forall_mem_append.mpr ⟨itX80, fun _ h => absurd h List.not_mem_nil⟩⟩⟩
set_option maxRecDepth 100000 in
theorem gdX8_init_o : ∀ w ∈ wsX8_init_o, goodWord w = true := gd_o (by decide +kernel)
set_option maxRecDepth 100000 in
theorem gdX8_init : ∀ w ∈ wsX8_init, goodWord w = true := List.forall_mem_cons.mpr ⟨by decide +kernel, List.forall_mem_append.mpr ⟨gdX8_init_o, List.forall_mem_append.mpr ⟨gdX80, fun _ h => absurd h List.not_mem_nil⟩⟩⟩
def wsX8_in_o : List Cond := ([] : List Cond)
def wsX8_in : List Cond := .code yX8_in cX8_in 3 (some .boolean) :: (wsX8_in_o ++ ([] : List Cond))
set_option maxRecDepth 100000 in
theorem itX8_in_o : ∀ w ∈ wsX8_in_o, w ∈ lw_tbl := fun _ h => absurd h List.not_mem_nil
set_option maxRecDepth 100000 in
theorem itX8_in : ∀ w ∈ wsX8_in, w ∈ lw_tbl := List.forall_mem_cons.mpr ⟨ch_4 _ (List.mem_of_getElem? (l := tables_1_4) (i := 131) (by decide +kernel)), List.forall_mem_append.mpr ⟨itX8_in_o, fun _ h => absurd h List.not_mem_nil⟩⟩
set_option maxRecDepth 100000 in
theorem gdX8_in_o : ∀ w ∈ wsX8_in_o, goodWord w = true := gd_o (by decide +kernel)
set_option maxRecDepth 100000 in
theorem gdX8_in : ∀ w ∈ wsX8_in, goodWord w = true := List.forall_mem_cons.mpr ⟨by decide +kernel, List.forall_mem_append.mpr ⟨gdX8_in_o, fun _ h => absurd h List.not_mem_nil⟩⟩
def wsX8_has_o : List Cond := ([] : List Cond)
def wsX8_has : List Cond := .code yX8_has cX8_has 2 (some .boolean) :: (wsX8_has_o ++ ([] : List Cond))
set_option maxRecDepth 100000 in
theorem itX8_has_o : ∀ w ∈ wsX8_has_o, w ∈ lw_tbl := fun _ h => absurd h List.not_mem_nil
set_option maxRecDepth 100000 in
theorem itX8_has : ∀ w ∈ wsX8_has, w ∈ lw_tbl := List.forall_mem_cons.mpr ⟨ch_5 _ (List.mem_of_getElem? (l := tables_1_5) (i := 34) (by decide +kernel)), List.forall_mem_append.mpr ⟨itX8_has_o, fun _ h => absurd h List.not_mem_nil⟩⟩
set_option maxRecDepth 100000 in
theorem gdX8_has_o : ∀ w ∈ wsX8_has_o, goodWord w = true := gd_o (by decide +kernel)
set_option maxRecDepth 100000 in
theorem gdX8_has : ∀ w ∈ wsX8_has, goodWord w = true := List.forall_mem_cons.mpr ⟨by decide +kernel, List.forall_mem_append.mpr ⟨gdX8_has_o, fun _ h => absurd h List.not_mem_nil⟩⟩
def wsX8_ones_o : List Cond := ([] : List Cond)
def wsX8_ones : List Cond := .code yX8_ones cX8_ones 3 (some .int) :: (wsX8_ones_o ++ ([] : List Cond))
set_option maxRecDepth 100000 in
theorem itX8_ones_o : ∀ w ∈ wsX8_ones_o, w ∈ lw_tbl := fun _ h => absurd h List.not_mem_nil
set_option maxRecDepth 100000 in
theorem itX8_ones : ∀ w ∈ wsX8_ones, w ∈ lw_tbl := List.forall_mem_cons.mpr ⟨ch_5 _ (List.mem_of_getElem? (l := tables_1_5) (i := 132) (by decide +kernel)), List.forall_mem_append.mpr ⟨itX8_ones_o, fun _ h => absurd h List.not_mem_nil⟩⟩
set_option maxRecDepth 100000 in
theorem gdX8_ones_o : ∀ w ∈ wsX8_ones_o, goodWord w = true := gd_o (by decide +kernel)
set_option maxRecDepth 100000 in
theorem gdX8_ones : ∀ w ∈ wsX8_ones, goodWord w = true := List.forall_mem_cons.mpr ⟨by decide +kernel, List.forall_mem_append.mpr ⟨gdX8_ones_o, fun _ h => absurd h List.not_mem_nil⟩⟩
def wsX8_found_o : List Cond := (([Cond.fieldLink RX8 51 "WrongWordModel" "status" "I", Cond.constant RX8 55 (-1000010)] : List Cond) ++ ([] : List Cond))
def wsX8_found : List Cond := .code yX8_found cX8_found 2 (some .int) :: (wsX8_found_o ++ (wsX80 ++ ([] : List Cond)))
set_option maxRecDepth 100000 in
theorem itX8_found_o : ∀ w ∈ wsX8_found_o, w ∈ lw_tbl := List.forall_mem_append.mpr ⟨fun w h => ch_4 w (mem_r (big := tables_1_4) _ [55, 137] (by decide +kernel) w h), fun _ h => absurd h List.not_mem_nil⟩
set_option maxRecDepth 100000 in
theorem itX8_found : ∀ w ∈ wsX8_found, w ∈ lw_tbl := List.forall_mem_cons.mpr ⟨ch_4 _ (List.mem_of_getElem? (l := tables_1_4) (i := 136) (by decide +kernel)), List.forall_mem_append.mpr ⟨itX8_found_o, List.forall_mem_append.mpr ⟨itX80, fun _ h => absurd h List.not_mem_nil⟩⟩⟩
set_option maxRecDepth 100000 in
theorem gdX8_found_o : ∀ w ∈ wsX8_found_o, goodWord w = true := gd_o (by decide +kernel)
set_option maxRecDepth 100000 in
theorem gdX8_found : ∀ w ∈ wsX8_found, goodWord w = true := List.forall_mem_cons.mpr ⟨by decide +kernel, List.forall_mem_append.mpr ⟨gdX8_found_o, List.forall_mem_append.mpr ⟨gdX80, fun _ h => absurd h List.not_mem_nil⟩⟩⟩
def wsX8_well_o : List Cond := (([Cond.fieldLink RX8 51 "WrongWordModel" "status" "I"] : List Cond) ++ ([] : List Cond))
def wsX8_well : List Cond := .code yX8_well cX8_well 2 (some .int) :: (wsX8_well_o ++ (wsX80 ++ ([] : List Cond)))
set_option maxRecDepth 100000 in
theorem itX8_well_o : ∀ w ∈ wsX8_well_o, w ∈ lw_tbl := List.forall_mem_append.mpr ⟨fun w h => ch_4 w (mem_r (big := tables_1_4) _ [55] (by decide +kernel) w h), fun _ h => absurd h List.not_mem_nil⟩
set_option maxRecDepth 100000 in
theorem itX8_well : ∀ w ∈ wsX8_well, w ∈ lw_tbl := List.forall_mem_cons.mpr ⟨ch_4 _ (List.mem_of_getElem? (l := tables_1_4) (i := 141) (by decide +kernel)), List.forall_mem_append.mpr ⟨itX8_well_o, List.forall_mem_append.mpr ⟨itX80, fun _ h => absurd h List.not_mem_nil⟩⟩⟩
set_option maxRecDepth 100000 in
theorem gdX8_well_o : ∀ w ∈ wsX8_well_o, goodWord w = true := gd_o (by decide +kernel)
set_option maxRecDepth 100000 in
theorem gdX8_well : ∀ w ∈ wsX8_well, goodWord w = true := List.forall_mem_cons.mpr ⟨by decide +kernel, List.forall_mem_append.mpr ⟨gdX8_well_o, List.forall_mem_append.mpr ⟨gdX80, fun _ h => absurd h List.not_mem_nil⟩⟩⟩
def wsX8_copies_o : List Cond := ([] : List Cond)
def wsX8_copies : List Cond := .code yX8_copies cX8_copies 5 none :: (wsX8_copies_o ++ ([] : List Cond))
set_option maxRecDepth 100000 in
theorem itX8_copies_o : ∀ w ∈ wsX8_copies_o, w ∈ lw_tbl := fun _ h => absurd h List.not_mem_nil
set_option maxRecDepth 100000 in
theorem itX8_copies : ∀ w ∈ wsX8_copies, w ∈ lw_tbl := List.forall_mem_cons.mpr ⟨ch_4 _ (List.mem_of_getElem? (l := tables_1_4) (i := 224) (by decide +kernel)), List.forall_mem_append.mpr ⟨itX8_copies_o, fun _ h => absurd h List.not_mem_nil⟩⟩
set_option maxRecDepth 100000 in
theorem gdX8_copies_o : ∀ w ∈ wsX8_copies_o, goodWord w = true := gd_o (by decide +kernel)
set_option maxRecDepth 100000 in
theorem gdX8_copies : ∀ w ∈ wsX8_copies, goodWord w = true := List.forall_mem_cons.mpr ⟨by decide +kernel, List.forall_mem_append.mpr ⟨gdX8_copies_o, fun _ h => absurd h List.not_mem_nil⟩⟩
def wsX8_isRow_o : List Cond := (([Cond.initialized RX8] : List Cond) ++ (([Cond.methodLink RX8 56 yX8_in, Cond.static yX8_in] : List Cond) ++ ([] : List Cond)))
def wsX8_isRow : List Cond := .code yX8_isRow cX8_isRow 1 (some .boolean) :: (wsX8_isRow_o ++ (wsX8_in ++ ([] : List Cond)))
set_option maxRecDepth 100000 in
theorem itX8_isRow_o : ∀ w ∈ wsX8_isRow_o, w ∈ lw_tbl := List.forall_mem_append.mpr ⟨fun w h => ch_1 w (mem_r (big := tables_1_1) _ [9] (by decide +kernel) w h), List.forall_mem_append.mpr ⟨fun w h => ch_4 w (mem_r (big := tables_1_4) _ [129, 130] (by decide +kernel) w h), fun _ h => absurd h List.not_mem_nil⟩⟩
set_option maxRecDepth 100000 in
theorem itX8_isRow : ∀ w ∈ wsX8_isRow, w ∈ lw_tbl := List.forall_mem_cons.mpr ⟨ch_4 _ (List.mem_of_getElem? (l := tables_1_4) (i := 128) (by decide +kernel)), List.forall_mem_append.mpr ⟨itX8_isRow_o, List.forall_mem_append.mpr ⟨itX8_in, fun _ h => absurd h List.not_mem_nil⟩⟩⟩
set_option maxRecDepth 100000 in
theorem gdX8_isRow_o : ∀ w ∈ wsX8_isRow_o, goodWord w = true := gd_o (by decide +kernel)
set_option maxRecDepth 100000 in
theorem gdX8_isRow : ∀ w ∈ wsX8_isRow, goodWord w = true := List.forall_mem_cons.mpr ⟨by decide +kernel, List.forall_mem_append.mpr ⟨gdX8_isRow_o, List.forall_mem_append.mpr ⟨gdX8_in, fun _ h => absurd h List.not_mem_nil⟩⟩⟩
def wsX8_isMissing_o : List Cond := (([Cond.fieldLink RX8 7 "WrongWordModel" "lane" "[I", Cond.constant RX8 50 (-1000000)] : List Cond) ++ ([] : List Cond))
def wsX8_isMissing : List Cond := .code yX8_isMissing cX8_isMissing 2 (some .boolean) :: (wsX8_isMissing_o ++ (wsX80 ++ ([] : List Cond)))
set_option maxRecDepth 100000 in
theorem itX8_isMissing_o : ∀ w ∈ wsX8_isMissing_o, w ∈ lw_tbl := List.forall_mem_append.mpr ⟨fun w h => ch_4 w (mem_r (big := tables_1_4) _ [51, 50] (by decide +kernel) w h), fun _ h => absurd h List.not_mem_nil⟩
set_option maxRecDepth 100000 in
theorem itX8_isMissing : ∀ w ∈ wsX8_isMissing, w ∈ lw_tbl := List.forall_mem_cons.mpr ⟨ch_4 _ (List.mem_of_getElem? (l := tables_1_4) (i := 149) (by decide +kernel)), List.forall_mem_append.mpr ⟨itX8_isMissing_o, List.forall_mem_append.mpr ⟨itX80, fun _ h => absurd h List.not_mem_nil⟩⟩⟩
set_option maxRecDepth 100000 in
theorem gdX8_isMissing_o : ∀ w ∈ wsX8_isMissing_o, goodWord w = true := gd_o (by decide +kernel)
set_option maxRecDepth 100000 in
theorem gdX8_isMissing : ∀ w ∈ wsX8_isMissing, goodWord w = true := List.forall_mem_cons.mpr ⟨by decide +kernel, List.forall_mem_append.mpr ⟨gdX8_isMissing_o, List.forall_mem_append.mpr ⟨gdX80, fun _ h => absurd h List.not_mem_nil⟩⟩⟩
def wsX8_cut_o : List Cond := ([] : List Cond)
def wsX8_cut : List Cond := .code yX8_cut cX8_cut 2 (some .int) :: (wsX8_cut_o ++ ([] : List Cond))
set_option maxRecDepth 100000 in
theorem itX8_cut_o : ∀ w ∈ wsX8_cut_o, w ∈ lw_tbl := fun _ h => absurd h List.not_mem_nil
set_option maxRecDepth 100000 in
theorem itX8_cut : ∀ w ∈ wsX8_cut, w ∈ lw_tbl := List.forall_mem_cons.mpr ⟨ch_4 _ (List.mem_of_getElem? (l := tables_1_4) (i := 152) (by decide +kernel)), List.forall_mem_append.mpr ⟨itX8_cut_o, fun _ h => absurd h List.not_mem_nil⟩⟩
set_option maxRecDepth 100000 in
theorem gdX8_cut_o : ∀ w ∈ wsX8_cut_o, goodWord w = true := gd_o (by decide +kernel)
set_option maxRecDepth 100000 in
theorem gdX8_cut : ∀ w ∈ wsX8_cut, goodWord w = true := List.forall_mem_cons.mpr ⟨by decide +kernel, List.forall_mem_append.mpr ⟨gdX8_cut_o, fun _ h => absurd h List.not_mem_nil⟩⟩
def wsX8_row_o : List Cond := (([Cond.selects RX8 yX8_found yX8_found, Cond.selects RX8 yX8_well yX8_well] : List Cond) ++ (([Cond.initialized RX8] : List Cond) ++ (([Cond.constant RX8 64 (-1000001), Cond.fieldLink RX8 7 "WrongWordModel" "lane" "[I", Cond.fieldLink RX8 13 "WrongWordModel" "many" "[I", Cond.fieldLink RX8 16 "WrongWordModel" "items" "[I", Cond.methodLink RX8 60 yX8_isRow, Cond.static yX8_isRow, Cond.methodLink RX8 56 yX8_in, Cond.static yX8_in, Cond.methodLink RX8 65 yX8_found, Cond.instanceMethod yX8_found, Cond.fieldLink RX8 51 "WrongWordModel" "status" "I", Cond.constant RX8 55 (-1000010), Cond.methodLink RX8 69 yX8_well, Cond.instanceMethod yX8_well] : List Cond) ++ ([] : List Cond))))
def wsX8_row : List Cond := .code yX8_row cX8_row 5 (some .int) :: (wsX8_row_o ++ (wsX80 ++ (wsX8_isRow ++ (wsX8_in ++ (wsX8_found ++ (wsX8_well ++ ([] : List Cond)))))))
set_option maxRecDepth 100000 in
theorem itX8_row_o : ∀ w ∈ wsX8_row_o, w ∈ lw_tbl := List.forall_mem_append.mpr ⟨fun w h => ch_0 w (mem_r (big := k2_sels lw_privs) _ [27, 28] (by decide +kernel) w h), List.forall_mem_append.mpr ⟨fun w h => ch_1 w (mem_r (big := tables_1_1) _ [9] (by decide +kernel) w h), List.forall_mem_append.mpr ⟨fun w h => ch_4 w (mem_r (big := tables_1_4) _ [132, 51, 52, 53, 126, 127, 129, 130, 133, 135, 55, 137, 138, 140] (by decide +kernel) w h), fun _ h => absurd h List.not_mem_nil⟩⟩⟩
set_option maxRecDepth 100000 in
theorem itX8_row : ∀ w ∈ wsX8_row, w ∈ lw_tbl := List.forall_mem_cons.mpr ⟨ch_4 _ (List.mem_of_getElem? (l := tables_1_4) (i := 125) (by decide +kernel)), List.forall_mem_append.mpr ⟨itX8_row_o, List.forall_mem_append.mpr ⟨itX80, List.forall_mem_append.mpr ⟨itX8_isRow, List.forall_mem_append.mpr ⟨itX8_in, List.forall_mem_append.mpr ⟨itX8_found, List.forall_mem_append.mpr ⟨itX8_well, fun _ h => absurd h List.not_mem_nil⟩⟩⟩⟩⟩⟩⟩
set_option maxRecDepth 100000 in
theorem gdX8_row_o : ∀ w ∈ wsX8_row_o, goodWord w = true := gd_o (by decide +kernel)
set_option maxRecDepth 100000 in
theorem gdX8_row : ∀ w ∈ wsX8_row, goodWord w = true := List.forall_mem_cons.mpr ⟨by decide +kernel, List.forall_mem_append.mpr ⟨gdX8_row_o, List.forall_mem_append.mpr ⟨gdX80, List.forall_mem_append.mpr ⟨gdX8_isRow, List.forall_mem_append.mpr ⟨gdX8_in, List.forall_mem_append.mpr ⟨gdX8_found, List.forall_mem_append.mpr ⟨gdX8_well, fun _ h => absurd h List.not_mem_nil⟩⟩⟩⟩⟩⟩⟩
def wsX8_set_o : List Cond := (([Cond.selects RX8 yX8_isMissing yX8_isMissing, Cond.selects RX8 yX8_found yX8_found, Cond.selects RX8 yX8_well yX8_well] : List Cond) ++ (([Cond.initialized RX8] : List Cond) ++ (([Cond.constant RX8 64 (-1000001), Cond.fieldLink RX8 13 "WrongWordModel" "many" "[I", Cond.fieldLink RX8 16 "WrongWordModel" "items" "[I", Cond.fieldLink RX8 7 "WrongWordModel" "lane" "[I", Cond.methodLink RX8 60 yX8_isRow, Cond.static yX8_isRow, Cond.methodLink RX8 56 yX8_in, Cond.static yX8_in, Cond.methodLink RX8 72 yX8_isMissing, Cond.instanceMethod yX8_isMissing, Cond.constant RX8 50 (-1000000), Cond.methodLink RX8 65 yX8_found, Cond.instanceMethod yX8_found, Cond.fieldLink RX8 51 "WrongWordModel" "status" "I", Cond.constant RX8 55 (-1000010), Cond.methodLink RX8 75 yX8_cut, Cond.static yX8_cut, Cond.methodLink RX8 69 yX8_well, Cond.instanceMethod yX8_well] : List Cond) ++ ([] : List Cond))))
def wsX8_set : List Cond := .code yX8_set cX8_set 4 (some .int) :: (wsX8_set_o ++ (wsX80 ++ (wsX8_isRow ++ (wsX8_isMissing ++ (wsX8_found ++ (wsX8_in ++ (wsX8_cut ++ (wsX8_well ++ ([] : List Cond)))))))))
set_option maxRecDepth 100000 in
theorem itX8_set_o : ∀ w ∈ wsX8_set_o, w ∈ lw_tbl := List.forall_mem_append.mpr ⟨fun w h => ch_0 w (mem_r (big := k2_sels lw_privs) _ [29, 27, 28] (by decide +kernel) w h), List.forall_mem_append.mpr ⟨fun w h => ch_1 w (mem_r (big := tables_1_1) _ [9] (by decide +kernel) w h), List.forall_mem_append.mpr ⟨fun w h => ch_4 w (mem_r (big := tables_1_4) _ [132, 52, 53, 51, 126, 127, 129, 130, 146, 148, 50, 133, 135, 55, 137, 150, 151, 138, 140] (by decide +kernel) w h), fun _ h => absurd h List.not_mem_nil⟩⟩⟩
set_option maxRecDepth 100000 in
theorem itX8_set : ∀ w ∈ wsX8_set, w ∈ lw_tbl := List.forall_mem_cons.mpr ⟨ch_4 _ (List.mem_of_getElem? (l := tables_1_4) (i := 145) (by decide +kernel)), List.forall_mem_append.mpr ⟨itX8_set_o, List.forall_mem_append.mpr ⟨itX80, List.forall_mem_append.mpr ⟨itX8_isRow, List.forall_mem_append.mpr ⟨itX8_isMissing, List.forall_mem_append.mpr ⟨itX8_found, List.forall_mem_append.mpr ⟨itX8_in, List.forall_mem_append.mpr ⟨itX8_cut, List.forall_mem_append.mpr ⟨itX8_well, fun _ h => absurd h List.not_mem_nil⟩⟩⟩⟩⟩⟩⟩⟩⟩
set_option maxRecDepth 100000 in
theorem gdX8_set_o : ∀ w ∈ wsX8_set_o, goodWord w = true := gd_o (by decide +kernel)
set_option maxRecDepth 100000 in
theorem gdX8_set : ∀ w ∈ wsX8_set, goodWord w = true := List.forall_mem_cons.mpr ⟨by decide +kernel, List.forall_mem_append.mpr ⟨gdX8_set_o, List.forall_mem_append.mpr ⟨gdX80, List.forall_mem_append.mpr ⟨gdX8_isRow, List.forall_mem_append.mpr ⟨gdX8_isMissing, List.forall_mem_append.mpr ⟨gdX8_found, List.forall_mem_append.mpr ⟨gdX8_in, List.forall_mem_append.mpr ⟨gdX8_cut, List.forall_mem_append.mpr ⟨gdX8_well, fun _ h => absurd h List.not_mem_nil⟩⟩⟩⟩⟩⟩⟩⟩⟩
def wsX8_isPart_o : List Cond := (([Cond.fieldLink RX8 13 "WrongWordModel" "many" "[I"] : List Cond) ++ ([] : List Cond))
def wsX8_isPart : List Cond := .code yX8_isPart cX8_isPart 4 (some .boolean) :: (wsX8_isPart_o ++ (wsX80 ++ ([] : List Cond)))
set_option maxRecDepth 100000 in
theorem itX8_isPart_o : ∀ w ∈ wsX8_isPart_o, w ∈ lw_tbl := List.forall_mem_append.mpr ⟨fun w h => ch_4 w (mem_r (big := tables_1_4) _ [52] (by decide +kernel) w h), fun _ h => absurd h List.not_mem_nil⟩
set_option maxRecDepth 100000 in
theorem itX8_isPart : ∀ w ∈ wsX8_isPart, w ∈ lw_tbl := List.forall_mem_cons.mpr ⟨ch_4 _ (List.mem_of_getElem? (l := tables_1_4) (i := 160) (by decide +kernel)), List.forall_mem_append.mpr ⟨itX8_isPart_o, List.forall_mem_append.mpr ⟨itX80, fun _ h => absurd h List.not_mem_nil⟩⟩⟩
set_option maxRecDepth 100000 in
theorem gdX8_isPart_o : ∀ w ∈ wsX8_isPart_o, goodWord w = true := gd_o (by decide +kernel)
set_option maxRecDepth 100000 in
theorem gdX8_isPart : ∀ w ∈ wsX8_isPart, goodWord w = true := List.forall_mem_cons.mpr ⟨by decide +kernel, List.forall_mem_append.mpr ⟨gdX8_isPart_o, List.forall_mem_append.mpr ⟨gdX80, fun _ h => absurd h List.not_mem_nil⟩⟩⟩
def wsX8_copy_o : List Cond := (([Cond.selects RX8 yX8_isMissing yX8_isMissing, Cond.selects RX8 yX8_found yX8_found, Cond.selects RX8 yX8_isPart yX8_isPart, Cond.selects RX8 yX8_well yX8_well] : List Cond) ++ (([Cond.initialized RX8] : List Cond) ++ (([Cond.constant RX8 64 (-1000001), Cond.fieldLink RX8 7 "WrongWordModel" "lane" "[I", Cond.fieldLink RX8 19 "WrongWordModel" "spare" "[I", Cond.fieldLink RX8 16 "WrongWordModel" "items" "[I", Cond.methodLink RX8 60 yX8_isRow, Cond.static yX8_isRow, Cond.methodLink RX8 56 yX8_in, Cond.methodLink RX8 72 yX8_isMissing, Cond.instanceMethod yX8_isMissing, Cond.constant RX8 50 (-1000000), Cond.methodLink RX8 65 yX8_found, Cond.instanceMethod yX8_found, Cond.fieldLink RX8 51 "WrongWordModel" "status" "I", Cond.constant RX8 55 (-1000010), Cond.methodLink RX8 79 yX8_isPart, Cond.instanceMethod yX8_isPart, Cond.fieldLink RX8 13 "WrongWordModel" "many" "[I", Cond.methodLink RX8 69 yX8_well, Cond.instanceMethod yX8_well] : List Cond) ++ ([] : List Cond))))
def wsX8_copy : List Cond := .code yX8_copy cX8_copy 7 (some .int) :: (wsX8_copy_o ++ (wsX80 ++ (wsX8_isRow ++ (wsX8_isMissing ++ (wsX8_found ++ (wsX8_isPart ++ (wsX8_well ++ ([] : List Cond))))))))
set_option maxRecDepth 100000 in
theorem itX8_copy_o : ∀ w ∈ wsX8_copy_o, w ∈ lw_tbl := List.forall_mem_append.mpr ⟨fun w h => ch_0 w (mem_r (big := k2_sels lw_privs) _ [29, 27, 30, 28] (by decide +kernel) w h), List.forall_mem_append.mpr ⟨fun w h => ch_1 w (mem_r (big := tables_1_1) _ [9] (by decide +kernel) w h), List.forall_mem_append.mpr ⟨fun w h => ch_4 w (mem_r (big := tables_1_4) _ [132, 51, 54, 53, 126, 127, 129, 146, 148, 50, 133, 135, 55, 137, 157, 159, 52, 138, 140] (by decide +kernel) w h), fun _ h => absurd h List.not_mem_nil⟩⟩⟩
set_option maxRecDepth 100000 in
theorem itX8_copy : ∀ w ∈ wsX8_copy, w ∈ lw_tbl := List.forall_mem_cons.mpr ⟨ch_4 _ (List.mem_of_getElem? (l := tables_1_4) (i := 156) (by decide +kernel)), List.forall_mem_append.mpr ⟨itX8_copy_o, List.forall_mem_append.mpr ⟨itX80, List.forall_mem_append.mpr ⟨itX8_isRow, List.forall_mem_append.mpr ⟨itX8_isMissing, List.forall_mem_append.mpr ⟨itX8_found, List.forall_mem_append.mpr ⟨itX8_isPart, List.forall_mem_append.mpr ⟨itX8_well, fun _ h => absurd h List.not_mem_nil⟩⟩⟩⟩⟩⟩⟩⟩
set_option maxRecDepth 100000 in
theorem gdX8_copy_o : ∀ w ∈ wsX8_copy_o, goodWord w = true := gd_o (by decide +kernel)
set_option maxRecDepth 100000 in
theorem gdX8_copy : ∀ w ∈ wsX8_copy, goodWord w = true := List.forall_mem_cons.mpr ⟨by decide +kernel, List.forall_mem_append.mpr ⟨gdX8_copy_o, List.forall_mem_append.mpr ⟨gdX80, List.forall_mem_append.mpr ⟨gdX8_isRow, List.forall_mem_append.mpr ⟨gdX8_isMissing, List.forall_mem_append.mpr ⟨gdX8_found, List.forall_mem_append.mpr ⟨gdX8_isPart, List.forall_mem_append.mpr ⟨gdX8_well, fun _ h => absurd h List.not_mem_nil⟩⟩⟩⟩⟩⟩⟩⟩
def wsX8_drop_o : List Cond := (([Cond.selects RX8 yX8_isMissing yX8_isMissing, Cond.selects RX8 yX8_found yX8_found, Cond.selects RX8 yX8_well yX8_well] : List Cond) ++ (([Cond.initialized RX8] : List Cond) ++ (([Cond.constant RX8 64 (-1000001), Cond.fieldLink RX8 7 "WrongWordModel" "lane" "[I", Cond.constant RX8 50 (-1000000), Cond.fieldLink RX8 13 "WrongWordModel" "many" "[I", Cond.methodLink RX8 60 yX8_isRow, Cond.static yX8_isRow, Cond.methodLink RX8 56 yX8_in, Cond.methodLink RX8 72 yX8_isMissing, Cond.instanceMethod yX8_isMissing, Cond.methodLink RX8 65 yX8_found, Cond.instanceMethod yX8_found, Cond.fieldLink RX8 51 "WrongWordModel" "status" "I", Cond.constant RX8 55 (-1000010), Cond.methodLink RX8 69 yX8_well, Cond.instanceMethod yX8_well] : List Cond) ++ ([] : List Cond))))
def wsX8_drop : List Cond := .code yX8_drop cX8_drop 2 (some .int) :: (wsX8_drop_o ++ (wsX80 ++ (wsX8_isRow ++ (wsX8_isMissing ++ (wsX8_found ++ (wsX8_well ++ ([] : List Cond)))))))
set_option maxRecDepth 100000 in
theorem itX8_drop_o : ∀ w ∈ wsX8_drop_o, w ∈ lw_tbl := List.forall_mem_append.mpr ⟨fun w h => ch_0 w (mem_r (big := k2_sels lw_privs) _ [29, 27, 28] (by decide +kernel) w h), List.forall_mem_append.mpr ⟨fun w h => ch_1 w (mem_r (big := tables_1_1) _ [9] (by decide +kernel) w h), List.forall_mem_append.mpr ⟨fun w h => ch_4 w (mem_r (big := tables_1_4) _ [132, 51, 50, 52, 126, 127, 129, 146, 148, 133, 135, 55, 137, 138, 140] (by decide +kernel) w h), fun _ h => absurd h List.not_mem_nil⟩⟩⟩
set_option maxRecDepth 100000 in
theorem itX8_drop : ∀ w ∈ wsX8_drop, w ∈ lw_tbl := List.forall_mem_cons.mpr ⟨ch_4 _ (List.mem_of_getElem? (l := tables_1_4) (i := 164) (by decide +kernel)), List.forall_mem_append.mpr ⟨itX8_drop_o, List.forall_mem_append.mpr ⟨itX80, List.forall_mem_append.mpr ⟨itX8_isRow, List.forall_mem_append.mpr ⟨itX8_isMissing, List.forall_mem_append.mpr ⟨itX8_found, List.forall_mem_append.mpr ⟨itX8_well, fun _ h => absurd h List.not_mem_nil⟩⟩⟩⟩⟩⟩⟩
set_option maxRecDepth 100000 in
theorem gdX8_drop_o : ∀ w ∈ wsX8_drop_o, goodWord w = true := gd_o (by decide +kernel)
set_option maxRecDepth 100000 in
theorem gdX8_drop : ∀ w ∈ wsX8_drop, goodWord w = true := List.forall_mem_cons.mpr ⟨by decide +kernel, List.forall_mem_append.mpr ⟨gdX8_drop_o, List.forall_mem_append.mpr ⟨gdX80, List.forall_mem_append.mpr ⟨gdX8_isRow, List.forall_mem_append.mpr ⟨gdX8_isMissing, List.forall_mem_append.mpr ⟨gdX8_found, List.forall_mem_append.mpr ⟨gdX8_well, fun _ h => absurd h List.not_mem_nil⟩⟩⟩⟩⟩⟩⟩
def wsX8_feed_o : List Cond := (([Cond.initialized RX8] : List Cond) ++ (([Cond.constant RX8 64 (-1000001), Cond.fieldLink RX8 82 "WrongWordModel" "taped" "I", Cond.constant RX8 85 (-1000003), Cond.fieldLink RX8 22 "WrongWordModel" "tape" "[I", Cond.methodLink RX8 56 yX8_in, Cond.static yX8_in] : List Cond) ++ ([] : List Cond)))
def wsX8_feed : List Cond := .code yX8_feed cX8_feed 2 (some .int) :: (wsX8_feed_o ++ (wsX80 ++ (wsX8_in ++ ([] : List Cond))))
set_option maxRecDepth 100000 in
theorem itX8_feed_o : ∀ w ∈ wsX8_feed_o, w ∈ lw_tbl := List.forall_mem_append.mpr ⟨fun w h => ch_1 w (mem_r (big := tables_1_1) _ [9] (by decide +kernel) w h), List.forall_mem_append.mpr ⟨fun w h => ch_4 w (mem_r (big := tables_1_4) _ [132, 57, 169, 56, 129, 130] (by decide +kernel) w h), fun _ h => absurd h List.not_mem_nil⟩⟩
set_option maxRecDepth 100000 in
theorem itX8_feed : ∀ w ∈ wsX8_feed, w ∈ lw_tbl := List.forall_mem_cons.mpr ⟨ch_4 _ (List.mem_of_getElem? (l := tables_1_4) (i := 168) (by decide +kernel)), List.forall_mem_append.mpr ⟨itX8_feed_o, List.forall_mem_append.mpr ⟨itX80, List.forall_mem_append.mpr ⟨itX8_in, fun _ h => absurd h List.not_mem_nil⟩⟩⟩⟩
set_option maxRecDepth 100000 in
theorem gdX8_feed_o : ∀ w ∈ wsX8_feed_o, goodWord w = true := gd_o (by decide +kernel)
set_option maxRecDepth 100000 in
theorem gdX8_feed : ∀ w ∈ wsX8_feed, goodWord w = true := List.forall_mem_cons.mpr ⟨by decide +kernel, List.forall_mem_append.mpr ⟨gdX8_feed_o, List.forall_mem_append.mpr ⟨gdX80, List.forall_mem_append.mpr ⟨gdX8_in, fun _ h => absurd h List.not_mem_nil⟩⟩⟩⟩
def wsX8_byteAt_o : List Cond := (([Cond.fieldLink RX8 82 "WrongWordModel" "taped" "I", Cond.fieldLink RX8 22 "WrongWordModel" "tape" "[I"] : List Cond) ++ ([] : List Cond))
def wsX8_byteAt : List Cond := .code yX8_byteAt cX8_byteAt 2 (some .int) :: (wsX8_byteAt_o ++ (wsX80 ++ ([] : List Cond)))
set_option maxRecDepth 100000 in
theorem itX8_byteAt_o : ∀ w ∈ wsX8_byteAt_o, w ∈ lw_tbl := List.forall_mem_append.mpr ⟨fun w h => ch_4 w (mem_r (big := tables_1_4) _ [57, 56] (by decide +kernel) w h), fun _ h => absurd h List.not_mem_nil⟩
set_option maxRecDepth 100000 in
theorem itX8_byteAt : ∀ w ∈ wsX8_byteAt, w ∈ lw_tbl := List.forall_mem_cons.mpr ⟨ch_4 _ (List.mem_of_getElem? (l := tables_1_4) (i := 181) (by decide +kernel)), List.forall_mem_append.mpr ⟨itX8_byteAt_o, List.forall_mem_append.mpr ⟨itX80, fun _ h => absurd h List.not_mem_nil⟩⟩⟩
set_option maxRecDepth 100000 in
theorem gdX8_byteAt_o : ∀ w ∈ wsX8_byteAt_o, goodWord w = true := gd_o (by decide +kernel)
set_option maxRecDepth 100000 in
theorem gdX8_byteAt : ∀ w ∈ wsX8_byteAt, goodWord w = true := List.forall_mem_cons.mpr ⟨by decide +kernel, List.forall_mem_append.mpr ⟨gdX8_byteAt_o, List.forall_mem_append.mpr ⟨gdX80, fun _ h => absurd h List.not_mem_nil⟩⟩⟩
def wsX8_advances_o : List Cond := (([Cond.selects RX8 yX8_byteAt yX8_byteAt] : List Cond) ++ (([Cond.initialized RX8] : List Cond) ++ (([Cond.fieldLink RX8 86 "WrongWordModel" "at" "I", Cond.fieldLink RX8 89 "WrongWordModel" "start" "I", Cond.fieldLink RX8 95 "WrongWordModel" "value" "I", Cond.fieldLink RX8 98 "WrongWordModel" "token" "I", Cond.methodLink RX8 92 yX8_byteAt, Cond.instanceMethod yX8_byteAt, Cond.fieldLink RX8 82 "WrongWordModel" "taped" "I", Cond.fieldLink RX8 22 "WrongWordModel" "tape" "[I", Cond.methodLink RX8 56 yX8_in, Cond.static yX8_in] : List Cond) ++ ([] : List Cond))))
def wsX8_advances : List Cond := .code yX8_advances cX8_advances 2 none :: (wsX8_advances_o ++ (wsX80 ++ (wsX8_byteAt ++ (wsX8_in ++ ([] : List Cond)))))
set_option maxRecDepth 100000 in
theorem itX8_advances_o : ∀ w ∈ wsX8_advances_o, w ∈ lw_tbl := List.forall_mem_append.mpr ⟨fun w h => ch_0 w (mem_r (big := k2_sels lw_privs) _ [32] (by decide +kernel) w h), List.forall_mem_append.mpr ⟨fun w h => ch_1 w (mem_r (big := tables_1_1) _ [9] (by decide +kernel) w h), List.forall_mem_append.mpr ⟨fun w h => ch_4 w (mem_r (big := tables_1_4) _ [60, 61, 63, 62, 178, 180, 57, 56, 129, 130] (by decide +kernel) w h), fun _ h => absurd h List.not_mem_nil⟩⟩⟩
set_option maxRecDepth 100000 in
theorem itX8_advances : ∀ w ∈ wsX8_advances, w ∈ lw_tbl := List.forall_mem_cons.mpr ⟨ch_4 _ (List.mem_of_getElem? (l := tables_1_4) (i := 177) (by decide +kernel)), List.forall_mem_append.mpr ⟨itX8_advances_o, List.forall_mem_append.mpr ⟨itX80, List.forall_mem_append.mpr ⟨itX8_byteAt, List.forall_mem_append.mpr ⟨itX8_in, fun _ h => absurd h List.not_mem_nil⟩⟩⟩⟩⟩
set_option maxRecDepth 100000 in
theorem gdX8_advances_o : ∀ w ∈ wsX8_advances_o, goodWord w = true := gd_o (by decide +kernel)
set_option maxRecDepth 100000 in
theorem gdX8_advances : ∀ w ∈ wsX8_advances, goodWord w = true := List.forall_mem_cons.mpr ⟨by decide +kernel, List.forall_mem_append.mpr ⟨gdX8_advances_o, List.forall_mem_append.mpr ⟨gdX80, List.forall_mem_append.mpr ⟨gdX8_byteAt, List.forall_mem_append.mpr ⟨gdX8_in, fun _ h => absurd h List.not_mem_nil⟩⟩⟩⟩⟩
def wsX8_isWell_o : List Cond := (([Cond.fieldLink RX8 101 "WrongWordModel" "faultPlace" "I"] : List Cond) ++ ([] : List Cond))
def wsX8_isWell : List Cond := .code yX8_isWell cX8_isWell 1 (some .boolean) :: (wsX8_isWell_o ++ (wsX80 ++ ([] : List Cond)))
set_option maxRecDepth 100000 in
theorem itX8_isWell_o : ∀ w ∈ wsX8_isWell_o, w ∈ lw_tbl := List.forall_mem_append.mpr ⟨fun w h => ch_4 w (mem_r (big := tables_1_4) _ [59] (by decide +kernel) w h), fun _ h => absurd h List.not_mem_nil⟩
set_option maxRecDepth 100000 in
theorem itX8_isWell : ∀ w ∈ wsX8_isWell, w ∈ lw_tbl := List.forall_mem_cons.mpr ⟨ch_4 _ (List.mem_of_getElem? (l := tables_1_4) (i := 189) (by decide +kernel)), List.forall_mem_append.mpr ⟨itX8_isWell_o, List.forall_mem_append.mpr ⟨itX80, fun _ h => absurd h List.not_mem_nil⟩⟩⟩
set_option maxRecDepth 100000 in
theorem gdX8_isWell_o : ∀ w ∈ wsX8_isWell_o, goodWord w = true := gd_o (by decide +kernel)
set_option maxRecDepth 100000 in
theorem gdX8_isWell : ∀ w ∈ wsX8_isWell, goodWord w = true := List.forall_mem_cons.mpr ⟨by decide +kernel, List.forall_mem_append.mpr ⟨gdX8_isWell_o, List.forall_mem_append.mpr ⟨gdX80, fun _ h => absurd h List.not_mem_nil⟩⟩⟩
def wsX8_takes_o : List Cond := (([Cond.selects RX8 yX8_isWell yX8_isWell, Cond.selects RX8 yX8_advances yX8_advances, Cond.selects RX8 yX8_byteAt yX8_byteAt] : List Cond) ++ (([Cond.initialized RX8] : List Cond) ++ (([Cond.fieldLink RX8 89 "WrongWordModel" "start" "I", Cond.fieldLink RX8 101 "WrongWordModel" "faultPlace" "I", Cond.fieldLink RX8 108 "WrongWordModel" "faultKind" "I", Cond.fieldLink RX8 95 "WrongWordModel" "value" "I", Cond.methodLink RX8 104 yX8_isWell, Cond.instanceMethod yX8_isWell, Cond.methodLink RX8 111 yX8_advances, Cond.instanceMethod yX8_advances, Cond.fieldLink RX8 86 "WrongWordModel" "at" "I", Cond.fieldLink RX8 98 "WrongWordModel" "token" "I", Cond.methodLink RX8 92 yX8_byteAt, Cond.fieldLink RX8 82 "WrongWordModel" "taped" "I", Cond.fieldLink RX8 22 "WrongWordModel" "tape" "[I", Cond.methodLink RX8 56 yX8_in] : List Cond) ++ ([] : List Cond))))
def wsX8_takes : List Cond := .code yX8_takes cX8_takes 4 (some .int) :: (wsX8_takes_o ++ (wsX80 ++ (wsX8_isWell ++ (wsX8_advances ++ ([] : List Cond)))))
set_option maxRecDepth 100000 in
theorem itX8_takes_o : ∀ w ∈ wsX8_takes_o, w ∈ lw_tbl := List.forall_mem_append.mpr ⟨fun w h => ch_0 w (mem_r (big := k2_sels lw_privs) _ [34, 31, 32] (by decide +kernel) w h), List.forall_mem_append.mpr ⟨fun w h => ch_1 w (mem_r (big := tables_1_1) _ [9] (by decide +kernel) w h), List.forall_mem_append.mpr ⟨fun w h => ch_4 w (mem_r (big := tables_1_4) _ [61, 59, 58, 63, 186, 188, 174, 176, 60, 62, 178, 57, 56, 129] (by decide +kernel) w h), fun _ h => absurd h List.not_mem_nil⟩⟩⟩
set_option maxRecDepth 100000 in
theorem itX8_takes : ∀ w ∈ wsX8_takes, w ∈ lw_tbl := List.forall_mem_cons.mpr ⟨ch_4 _ (List.mem_of_getElem? (l := tables_1_4) (i := 185) (by decide +kernel)), List.forall_mem_append.mpr ⟨itX8_takes_o, List.forall_mem_append.mpr ⟨itX80, List.forall_mem_append.mpr ⟨itX8_isWell, List.forall_mem_append.mpr ⟨itX8_advances, fun _ h => absurd h List.not_mem_nil⟩⟩⟩⟩⟩
set_option maxRecDepth 100000 in
theorem gdX8_takes_o : ∀ w ∈ wsX8_takes_o, goodWord w = true := gd_o (by decide +kernel)
set_option maxRecDepth 100000 in
theorem gdX8_takes : ∀ w ∈ wsX8_takes, goodWord w = true := List.forall_mem_cons.mpr ⟨by decide +kernel, List.forall_mem_append.mpr ⟨gdX8_takes_o, List.forall_mem_append.mpr ⟨gdX80, List.forall_mem_append.mpr ⟨gdX8_isWell, List.forall_mem_append.mpr ⟨gdX8_advances, fun _ h => absurd h List.not_mem_nil⟩⟩⟩⟩⟩
def wsX8_figure_o : List Cond := (([Cond.selects RX8 yX8_isWell yX8_isWell, Cond.selects RX8 yX8_takes yX8_takes, Cond.selects RX8 yX8_advances yX8_advances, Cond.selects RX8 yX8_byteAt yX8_byteAt] : List Cond) ++ (([Cond.initialized RX8] : List Cond) ++ (([Cond.fieldLink RX8 98 "WrongWordModel" "token" "I", Cond.fieldLink RX8 95 "WrongWordModel" "value" "I", Cond.methodLink RX8 104 yX8_isWell, Cond.instanceMethod yX8_isWell, Cond.fieldLink RX8 101 "WrongWordModel" "faultPlace" "I", Cond.methodLink RX8 114 yX8_takes, Cond.instanceMethod yX8_takes, Cond.fieldLink RX8 89 "WrongWordModel" "start" "I", Cond.fieldLink RX8 108 "WrongWordModel" "faultKind" "I", Cond.methodLink RX8 111 yX8_advances, Cond.fieldLink RX8 86 "WrongWordModel" "at" "I", Cond.methodLink RX8 92 yX8_byteAt, Cond.fieldLink RX8 82 "WrongWordModel" "taped" "I", Cond.fieldLink RX8 22 "WrongWordModel" "tape" "[I", Cond.methodLink RX8 56 yX8_in, Cond.static yX8_in] : List Cond) ++ ([] : List Cond))))
def wsX8_figure : List Cond := .code yX8_figure cX8_figure 3 (some .int) :: (wsX8_figure_o ++ (wsX80 ++ (wsX8_isWell ++ (wsX8_takes ++ (wsX8_in ++ ([] : List Cond))))))
set_option maxRecDepth 100000 in
theorem itX8_figure_o : ∀ w ∈ wsX8_figure_o, w ∈ lw_tbl := List.forall_mem_append.mpr ⟨fun w h => ch_0 w (mem_r (big := k2_sels lw_privs) _ [34, 33, 31, 32] (by decide +kernel) w h), List.forall_mem_append.mpr ⟨fun w h => ch_1 w (mem_r (big := tables_1_1) _ [9] (by decide +kernel) w h), List.forall_mem_append.mpr ⟨fun w h => ch_4 w (mem_r (big := tables_1_4) _ [62, 63, 186, 188, 59, 182, 184, 61, 58, 174, 60, 178, 57, 56, 129, 130] (by decide +kernel) w h), fun _ h => absurd h List.not_mem_nil⟩⟩⟩
set_option maxRecDepth 100000 in
theorem itX8_figure : ∀ w ∈ wsX8_figure, w ∈ lw_tbl := List.forall_mem_cons.mpr ⟨ch_4 _ (List.mem_of_getElem? (l := tables_1_4) (i := 193) (by decide +kernel)), List.forall_mem_append.mpr ⟨itX8_figure_o, List.forall_mem_append.mpr ⟨itX80, List.forall_mem_append.mpr ⟨itX8_isWell, List.forall_mem_append.mpr ⟨itX8_takes, List.forall_mem_append.mpr ⟨itX8_in, fun _ h => absurd h List.not_mem_nil⟩⟩⟩⟩⟩⟩
set_option maxRecDepth 100000 in
theorem gdX8_figure_o : ∀ w ∈ wsX8_figure_o, goodWord w = true := gd_o (by decide +kernel)
set_option maxRecDepth 100000 in
theorem gdX8_figure : ∀ w ∈ wsX8_figure, goodWord w = true := List.forall_mem_cons.mpr ⟨by decide +kernel, List.forall_mem_append.mpr ⟨gdX8_figure_o, List.forall_mem_append.mpr ⟨gdX80, List.forall_mem_append.mpr ⟨gdX8_isWell, List.forall_mem_append.mpr ⟨gdX8_takes, List.forall_mem_append.mpr ⟨gdX8_in, fun _ h => absurd h List.not_mem_nil⟩⟩⟩⟩⟩⟩
def wsX8_kindOf_o : List Cond := ([] : List Cond)
def wsX8_kindOf : List Cond := .code yX8_kindOf cX8_kindOf 1 (some .int) :: (wsX8_kindOf_o ++ ([] : List Cond))
set_option maxRecDepth 100000 in
theorem itX8_kindOf_o : ∀ w ∈ wsX8_kindOf_o, w ∈ lw_tbl := fun _ h => absurd h List.not_mem_nil
set_option maxRecDepth 100000 in
theorem itX8_kindOf : ∀ w ∈ wsX8_kindOf, w ∈ lw_tbl := List.forall_mem_cons.mpr ⟨ch_4 _ (List.mem_of_getElem? (l := tables_1_4) (i := 216) (by decide +kernel)), List.forall_mem_append.mpr ⟨itX8_kindOf_o, fun _ h => absurd h List.not_mem_nil⟩⟩
set_option maxRecDepth 100000 in
theorem gdX8_kindOf_o : ∀ w ∈ wsX8_kindOf_o, goodWord w = true := gd_o (by decide +kernel)
set_option maxRecDepth 100000 in
theorem gdX8_kindOf : ∀ w ∈ wsX8_kindOf, goodWord w = true := List.forall_mem_cons.mpr ⟨by decide +kernel, List.forall_mem_append.mpr ⟨gdX8_kindOf_o, fun _ h => absurd h List.not_mem_nil⟩⟩
def wsX8_follows_o : List Cond := (([Cond.selects RX8 yX8_takes yX8_takes, Cond.selects RX8 yX8_isWell yX8_isWell, Cond.selects RX8 yX8_advances yX8_advances, Cond.selects RX8 yX8_byteAt yX8_byteAt, Cond.selects RX8 yX8_figure yX8_figure] : List Cond) ++ (([Cond.initialized RX8] : List Cond) ++ (([Cond.fieldLink RX8 98 "WrongWordModel" "token" "I", Cond.methodLink RX8 114 yX8_takes, Cond.instanceMethod yX8_takes, Cond.fieldLink RX8 89 "WrongWordModel" "start" "I", Cond.fieldLink RX8 101 "WrongWordModel" "faultPlace" "I", Cond.fieldLink RX8 108 "WrongWordModel" "faultKind" "I", Cond.fieldLink RX8 95 "WrongWordModel" "value" "I", Cond.methodLink RX8 104 yX8_isWell, Cond.methodLink RX8 111 yX8_advances, Cond.fieldLink RX8 86 "WrongWordModel" "at" "I", Cond.methodLink RX8 92 yX8_byteAt, Cond.fieldLink RX8 82 "WrongWordModel" "taped" "I", Cond.fieldLink RX8 22 "WrongWordModel" "tape" "[I", Cond.methodLink RX8 56 yX8_in, Cond.methodLink RX8 118 yX8_figure, Cond.instanceMethod yX8_figure] : List Cond) ++ ([] : List Cond))))
def wsX8_follows : List Cond := .code yX8_follows cX8_follows 3 (some .int) :: (wsX8_follows_o ++ (wsX80 ++ (wsX8_takes ++ (wsX8_figure ++ ([] : List Cond)))))
set_option maxRecDepth 100000 in
theorem itX8_follows_o : ∀ w ∈ wsX8_follows_o, w ∈ lw_tbl := List.forall_mem_append.mpr ⟨fun w h => ch_0 w (mem_r (big := k2_sels lw_privs) _ [33, 34, 31, 32, 35] (by decide +kernel) w h), List.forall_mem_append.mpr ⟨fun w h => ch_1 w (mem_r (big := tables_1_1) _ [9] (by decide +kernel) w h), List.forall_mem_append.mpr ⟨fun w h => ch_4 w (mem_r (big := tables_1_4) _ [62, 182, 184, 61, 59, 58, 63, 186, 174, 60, 178, 57, 56, 129, 190, 192] (by decide +kernel) w h), fun _ h => absurd h List.not_mem_nil⟩⟩⟩
set_option maxRecDepth 100000 in
theorem itX8_follows : ∀ w ∈ wsX8_follows, w ∈ lw_tbl := List.forall_mem_cons.mpr ⟨ch_4 _ (List.mem_of_getElem? (l := tables_1_4) (i := 197) (by decide +kernel)), List.forall_mem_append.mpr ⟨itX8_follows_o, List.forall_mem_append.mpr ⟨itX80, List.forall_mem_append.mpr ⟨itX8_takes, List.forall_mem_append.mpr ⟨itX8_figure, fun _ h => absurd h List.not_mem_nil⟩⟩⟩⟩⟩
set_option maxRecDepth 100000 in
theorem gdX8_follows_o : ∀ w ∈ wsX8_follows_o, goodWord w = true := gd_o (by decide +kernel)
set_option maxRecDepth 100000 in
theorem gdX8_follows : ∀ w ∈ wsX8_follows, goodWord w = true := List.forall_mem_cons.mpr ⟨by decide +kernel, List.forall_mem_append.mpr ⟨gdX8_follows_o, List.forall_mem_append.mpr ⟨gdX80, List.forall_mem_append.mpr ⟨gdX8_takes, List.forall_mem_append.mpr ⟨gdX8_figure, fun _ h => absurd h List.not_mem_nil⟩⟩⟩⟩⟩
def wsX8_isTold_o : List Cond := (([Cond.fieldLink RX8 28 "WrongWordModel" "draft" "[I"] : List Cond) ++ ([] : List Cond))
def wsX8_isTold : List Cond := .code yX8_isTold cX8_isTold 7 (some .boolean) :: (wsX8_isTold_o ++ (wsX80 ++ ([] : List Cond)))
set_option maxRecDepth 100000 in
theorem itX8_isTold_o : ∀ w ∈ wsX8_isTold_o, w ∈ lw_tbl := List.forall_mem_append.mpr ⟨fun w h => ch_4 w (mem_r (big := tables_1_4) _ [65] (by decide +kernel) w h), fun _ h => absurd h List.not_mem_nil⟩
set_option maxRecDepth 100000 in
theorem itX8_isTold : ∀ w ∈ wsX8_isTold, w ∈ lw_tbl := List.forall_mem_cons.mpr ⟨ch_4 _ (List.mem_of_getElem? (l := tables_1_4) (i := 213) (by decide +kernel)), List.forall_mem_append.mpr ⟨itX8_isTold_o, List.forall_mem_append.mpr ⟨itX80, fun _ h => absurd h List.not_mem_nil⟩⟩⟩
set_option maxRecDepth 100000 in
theorem gdX8_isTold_o : ∀ w ∈ wsX8_isTold_o, goodWord w = true := gd_o (by decide +kernel)
set_option maxRecDepth 100000 in
theorem gdX8_isTold : ∀ w ∈ wsX8_isTold, goodWord w = true := List.forall_mem_cons.mpr ⟨by decide +kernel, List.forall_mem_append.mpr ⟨gdX8_isTold_o, List.forall_mem_append.mpr ⟨gdX80, fun _ h => absurd h List.not_mem_nil⟩⟩⟩
def wsX8_letterOf_o : List Cond := (([Cond.selects RX8 yX8_takes yX8_takes, Cond.selects RX8 yX8_isWell yX8_isWell, Cond.selects RX8 yX8_advances yX8_advances, Cond.selects RX8 yX8_byteAt yX8_byteAt] : List Cond) ++ (([Cond.initialized RX8] : List Cond) ++ (([Cond.fieldLink RX8 98 "WrongWordModel" "token" "I", Cond.methodLink RX8 114 yX8_takes, Cond.instanceMethod yX8_takes, Cond.fieldLink RX8 89 "WrongWordModel" "start" "I", Cond.fieldLink RX8 101 "WrongWordModel" "faultPlace" "I", Cond.fieldLink RX8 108 "WrongWordModel" "faultKind" "I", Cond.fieldLink RX8 95 "WrongWordModel" "value" "I", Cond.methodLink RX8 104 yX8_isWell, Cond.methodLink RX8 111 yX8_advances, Cond.fieldLink RX8 86 "WrongWordModel" "at" "I", Cond.methodLink RX8 92 yX8_byteAt, Cond.fieldLink RX8 82 "WrongWordModel" "taped" "I", Cond.fieldLink RX8 22 "WrongWordModel" "tape" "[I", Cond.methodLink RX8 56 yX8_in] : List Cond) ++ ([] : List Cond))))
def wsX8_letterOf : List Cond := .code yX8_letterOf cX8_letterOf 1 (some .int) :: (wsX8_letterOf_o ++ (wsX80 ++ (wsX8_takes ++ ([] : List Cond))))
set_option maxRecDepth 100000 in
theorem itX8_letterOf_o : ∀ w ∈ wsX8_letterOf_o, w ∈ lw_tbl := List.forall_mem_append.mpr ⟨fun w h => ch_0 w (mem_r (big := k2_sels lw_privs) _ [33, 34, 31, 32] (by decide +kernel) w h), List.forall_mem_append.mpr ⟨fun w h => ch_1 w (mem_r (big := tables_1_1) _ [9] (by decide +kernel) w h), List.forall_mem_append.mpr ⟨fun w h => ch_4 w (mem_r (big := tables_1_4) _ [62, 182, 184, 61, 59, 58, 63, 186, 174, 60, 178, 57, 56, 129] (by decide +kernel) w h), fun _ h => absurd h List.not_mem_nil⟩⟩⟩
set_option maxRecDepth 100000 in
theorem itX8_letterOf : ∀ w ∈ wsX8_letterOf, w ∈ lw_tbl := List.forall_mem_cons.mpr ⟨ch_4 _ (List.mem_of_getElem? (l := tables_1_4) (i := 209) (by decide +kernel)), List.forall_mem_append.mpr ⟨itX8_letterOf_o, List.forall_mem_append.mpr ⟨itX80, List.forall_mem_append.mpr ⟨itX8_takes, fun _ h => absurd h List.not_mem_nil⟩⟩⟩⟩
set_option maxRecDepth 100000 in
theorem gdX8_letterOf_o : ∀ w ∈ wsX8_letterOf_o, goodWord w = true := gd_o (by decide +kernel)
set_option maxRecDepth 100000 in
theorem gdX8_letterOf : ∀ w ∈ wsX8_letterOf, goodWord w = true := List.forall_mem_cons.mpr ⟨by decide +kernel, List.forall_mem_append.mpr ⟨gdX8_letterOf_o, List.forall_mem_append.mpr ⟨gdX80, List.forall_mem_append.mpr ⟨gdX8_takes, fun _ h => absurd h List.not_mem_nil⟩⟩⟩⟩
def wsX8_readsWord_o : List Cond := (([Cond.selects RX8 yX8_takes yX8_takes, Cond.selects RX8 yX8_isWell yX8_isWell, Cond.selects RX8 yX8_advances yX8_advances, Cond.selects RX8 yX8_byteAt yX8_byteAt, Cond.selects RX8 yX8_letterOf yX8_letterOf, Cond.selects RX8 yX8_isTold yX8_isTold] : List Cond) ++ (([Cond.initialized RX8] : List Cond) ++ (([Cond.fieldLink RX8 28 "WrongWordModel" "draft" "[I", Cond.fieldLink RX8 98 "WrongWordModel" "token" "I", Cond.fieldLink RX8 95 "WrongWordModel" "value" "I", Cond.methodLink RX8 114 yX8_takes, Cond.instanceMethod yX8_takes, Cond.fieldLink RX8 89 "WrongWordModel" "start" "I", Cond.fieldLink RX8 101 "WrongWordModel" "faultPlace" "I", Cond.fieldLink RX8 108 "WrongWordModel" "faultKind" "I", Cond.methodLink RX8 104 yX8_isWell, Cond.instanceMethod yX8_isWell, Cond.methodLink RX8 111 yX8_advances, Cond.fieldLink RX8 86 "WrongWordModel" "at" "I", Cond.methodLink RX8 92 yX8_byteAt, Cond.fieldLink RX8 82 "WrongWordModel" "taped" "I", Cond.fieldLink RX8 22 "WrongWordModel" "tape" "[I", Cond.methodLink RX8 56 yX8_in, Cond.methodLink RX8 121 yX8_letterOf, Cond.instanceMethod yX8_letterOf, Cond.methodLink RX8 125 yX8_isTold, Cond.instanceMethod yX8_isTold] : List Cond) ++ ([] : List Cond))))
def wsX8_readsWord : List Cond := .code yX8_readsWord cX8_readsWord 5 none :: (wsX8_readsWord_o ++ (wsX80 ++ (wsX8_takes ++ (wsX8_letterOf ++ (wsX8_isWell ++ (wsX8_isTold ++ ([] : List Cond)))))))
set_option maxRecDepth 100000 in
theorem itX8_readsWord_o : ∀ w ∈ wsX8_readsWord_o, w ∈ lw_tbl := List.forall_mem_append.mpr ⟨fun w h => ch_0 w (mem_r (big := k2_sels lw_privs) _ [33, 34, 31, 32, 39, 40] (by decide +kernel) w h), List.forall_mem_append.mpr ⟨fun w h => ch_1 w (mem_r (big := tables_1_1) _ [9] (by decide +kernel) w h), List.forall_mem_append.mpr ⟨fun w h => ch_4 w (mem_r (big := tables_1_4) _ [65, 62, 63, 182, 184, 61, 59, 58, 186, 188, 174, 60, 178, 57, 56, 129, 206, 208, 210, 212] (by decide +kernel) w h), fun _ h => absurd h List.not_mem_nil⟩⟩⟩
set_option maxRecDepth 100000 in
theorem itX8_readsWord : ∀ w ∈ wsX8_readsWord, w ∈ lw_tbl := List.forall_mem_cons.mpr ⟨ch_4 _ (List.mem_of_getElem? (l := tables_1_4) (i := 205) (by decide +kernel)), List.forall_mem_append.mpr ⟨itX8_readsWord_o, List.forall_mem_append.mpr ⟨itX80, List.forall_mem_append.mpr ⟨itX8_takes, List.forall_mem_append.mpr ⟨itX8_letterOf, List.forall_mem_append.mpr ⟨itX8_isWell, List.forall_mem_append.mpr ⟨itX8_isTold, fun _ h => absurd h List.not_mem_nil⟩⟩⟩⟩⟩⟩⟩
set_option maxRecDepth 100000 in
theorem gdX8_readsWord_o : ∀ w ∈ wsX8_readsWord_o, goodWord w = true := gd_o (by decide +kernel)
set_option maxRecDepth 100000 in
theorem gdX8_readsWord : ∀ w ∈ wsX8_readsWord, goodWord w = true := List.forall_mem_cons.mpr ⟨by decide +kernel, List.forall_mem_append.mpr ⟨gdX8_readsWord_o, List.forall_mem_append.mpr ⟨gdX80, List.forall_mem_append.mpr ⟨gdX8_takes, List.forall_mem_append.mpr ⟨gdX8_letterOf, List.forall_mem_append.mpr ⟨gdX8_isWell, List.forall_mem_append.mpr ⟨gdX8_isTold, fun _ h => absurd h List.not_mem_nil⟩⟩⟩⟩⟩⟩⟩
def wsX8_readsGuard_o : List Cond := (([Cond.selects RX8 yX8_takes yX8_takes, Cond.selects RX8 yX8_isWell yX8_isWell, Cond.selects RX8 yX8_advances yX8_advances, Cond.selects RX8 yX8_byteAt yX8_byteAt, Cond.selects RX8 yX8_figure yX8_figure] : List Cond) ++ (([Cond.initialized RX8] : List Cond) ++ (([Cond.fieldLink RX8 95 "WrongWordModel" "value" "I", Cond.fieldLink RX8 28 "WrongWordModel" "draft" "[I", Cond.fieldLink RX8 98 "WrongWordModel" "token" "I", Cond.methodLink RX8 128 yX8_kindOf, Cond.static yX8_kindOf, Cond.methodLink RX8 114 yX8_takes, Cond.instanceMethod yX8_takes, Cond.fieldLink RX8 89 "WrongWordModel" "start" "I", Cond.fieldLink RX8 101 "WrongWordModel" "faultPlace" "I", Cond.fieldLink RX8 108 "WrongWordModel" "faultKind" "I", Cond.methodLink RX8 104 yX8_isWell, Cond.instanceMethod yX8_isWell, Cond.methodLink RX8 111 yX8_advances, Cond.fieldLink RX8 86 "WrongWordModel" "at" "I", Cond.methodLink RX8 92 yX8_byteAt, Cond.fieldLink RX8 82 "WrongWordModel" "taped" "I", Cond.fieldLink RX8 22 "WrongWordModel" "tape" "[I", Cond.methodLink RX8 56 yX8_in, Cond.methodLink RX8 118 yX8_figure, Cond.instanceMethod yX8_figure] : List Cond) ++ ([] : List Cond))))
def wsX8_readsGuard : List Cond := .code yX8_readsGuard cX8_readsGuard 4 none :: (wsX8_readsGuard_o ++ (wsX80 ++ (wsX8_kindOf ++ (wsX8_takes ++ (wsX8_figure ++ (wsX8_isWell ++ ([] : List Cond)))))))
set_option maxRecDepth 100000 in
theorem itX8_readsGuard_o : ∀ w ∈ wsX8_readsGuard_o, w ∈ lw_tbl := List.forall_mem_append.mpr ⟨fun w h => ch_0 w (mem_r (big := k2_sels lw_privs) _ [33, 34, 31, 32, 35] (by decide +kernel) w h), List.forall_mem_append.mpr ⟨fun w h => ch_1 w (mem_r (big := tables_1_1) _ [9] (by decide +kernel) w h), List.forall_mem_append.mpr ⟨fun w h => ch_4 w (mem_r (big := tables_1_4) _ [63, 65, 62, 214, 215, 182, 184, 61, 59, 58, 186, 188, 174, 60, 178, 57, 56, 129, 190, 192] (by decide +kernel) w h), fun _ h => absurd h List.not_mem_nil⟩⟩⟩
set_option maxRecDepth 100000 in
theorem itX8_readsGuard : ∀ w ∈ wsX8_readsGuard, w ∈ lw_tbl := List.forall_mem_cons.mpr ⟨ch_4 _ (List.mem_of_getElem? (l := tables_1_4) (i := 220) (by decide +kernel)), List.forall_mem_append.mpr ⟨itX8_readsGuard_o, List.forall_mem_append.mpr ⟨itX80, List.forall_mem_append.mpr ⟨itX8_kindOf, List.forall_mem_append.mpr ⟨itX8_takes, List.forall_mem_append.mpr ⟨itX8_figure, List.forall_mem_append.mpr ⟨itX8_isWell, fun _ h => absurd h List.not_mem_nil⟩⟩⟩⟩⟩⟩⟩
set_option maxRecDepth 100000 in
theorem gdX8_readsGuard_o : ∀ w ∈ wsX8_readsGuard_o, goodWord w = true := gd_o (by decide +kernel)
set_option maxRecDepth 100000 in
theorem gdX8_readsGuard : ∀ w ∈ wsX8_readsGuard, goodWord w = true := List.forall_mem_cons.mpr ⟨by decide +kernel, List.forall_mem_append.mpr ⟨gdX8_readsGuard_o, List.forall_mem_append.mpr ⟨gdX80, List.forall_mem_append.mpr ⟨gdX8_kindOf, List.forall_mem_append.mpr ⟨gdX8_takes, List.forall_mem_append.mpr ⟨gdX8_figure, List.forall_mem_append.mpr ⟨gdX8_isWell, fun _ h => absurd h List.not_mem_nil⟩⟩⟩⟩⟩⟩⟩
def wsX8_must_o : List Cond := (([Cond.selects RX8 yX8_isWell yX8_isWell, Cond.selects RX8 yX8_takes yX8_takes, Cond.selects RX8 yX8_advances yX8_advances, Cond.selects RX8 yX8_byteAt yX8_byteAt] : List Cond) ++ (([Cond.initialized RX8] : List Cond) ++ (([Cond.methodLink RX8 104 yX8_isWell, Cond.instanceMethod yX8_isWell, Cond.fieldLink RX8 101 "WrongWordModel" "faultPlace" "I", Cond.methodLink RX8 114 yX8_takes, Cond.instanceMethod yX8_takes, Cond.fieldLink RX8 89 "WrongWordModel" "start" "I", Cond.fieldLink RX8 108 "WrongWordModel" "faultKind" "I", Cond.fieldLink RX8 95 "WrongWordModel" "value" "I", Cond.methodLink RX8 111 yX8_advances, Cond.fieldLink RX8 86 "WrongWordModel" "at" "I", Cond.fieldLink RX8 98 "WrongWordModel" "token" "I", Cond.methodLink RX8 92 yX8_byteAt, Cond.fieldLink RX8 82 "WrongWordModel" "taped" "I", Cond.fieldLink RX8 22 "WrongWordModel" "tape" "[I", Cond.methodLink RX8 56 yX8_in] : List Cond) ++ ([] : List Cond))))
def wsX8_must : List Cond := .code yX8_must cX8_must 2 none :: (wsX8_must_o ++ (wsX80 ++ (wsX8_isWell ++ (wsX8_takes ++ ([] : List Cond)))))
set_option maxRecDepth 100000 in
theorem itX8_must_o : ∀ w ∈ wsX8_must_o, w ∈ lw_tbl := List.forall_mem_append.mpr ⟨fun w h => ch_0 w (mem_r (big := k2_sels lw_privs) _ [34, 33, 31, 32] (by decide +kernel) w h), List.forall_mem_append.mpr ⟨fun w h => ch_1 w (mem_r (big := tables_1_1) _ [9] (by decide +kernel) w h), List.forall_mem_append.mpr ⟨fun w h => ch_4 w (mem_r (big := tables_1_4) _ [186, 188, 59, 182, 184, 61, 58, 63, 174, 60, 62, 178, 57, 56, 129] (by decide +kernel) w h), fun _ h => absurd h List.not_mem_nil⟩⟩⟩
set_option maxRecDepth 100000 in
theorem itX8_must : ∀ w ∈ wsX8_must, w ∈ lw_tbl := List.forall_mem_cons.mpr ⟨ch_4 _ (List.mem_of_getElem? (l := tables_1_4) (i := 201) (by decide +kernel)), List.forall_mem_append.mpr ⟨itX8_must_o, List.forall_mem_append.mpr ⟨itX80, List.forall_mem_append.mpr ⟨itX8_isWell, List.forall_mem_append.mpr ⟨itX8_takes, fun _ h => absurd h List.not_mem_nil⟩⟩⟩⟩⟩
set_option maxRecDepth 100000 in
theorem gdX8_must_o : ∀ w ∈ wsX8_must_o, goodWord w = true := gd_o (by decide +kernel)
set_option maxRecDepth 100000 in
theorem gdX8_must : ∀ w ∈ wsX8_must, goodWord w = true := List.forall_mem_cons.mpr ⟨by decide +kernel, List.forall_mem_append.mpr ⟨gdX8_must_o, List.forall_mem_append.mpr ⟨gdX80, List.forall_mem_append.mpr ⟨gdX8_isWell, List.forall_mem_append.mpr ⟨gdX8_takes, fun _ h => absurd h List.not_mem_nil⟩⟩⟩⟩⟩
def wsX8_gate_o : List Cond := (([Cond.selects RX8 yX8_advances yX8_advances, Cond.selects RX8 yX8_byteAt yX8_byteAt, Cond.selects RX8 yX8_takes yX8_takes, Cond.selects RX8 yX8_isWell yX8_isWell, Cond.selects RX8 yX8_figure yX8_figure, Cond.selects RX8 yX8_follows yX8_follows, Cond.selects RX8 yX8_must yX8_must, Cond.selects RX8 yX8_readsWord yX8_readsWord, Cond.selects RX8 yX8_letterOf yX8_letterOf, Cond.selects RX8 yX8_isTold yX8_isTold, Cond.selects RX8 yX8_readsGuard yX8_readsGuard] : List Cond) ++ (([Cond.initialized RX8] : List Cond) ++ (([Cond.fieldLink RX8 28 "WrongWordModel" "draft" "[I", Cond.fieldLink RX8 86 "WrongWordModel" "at" "I", Cond.fieldLink RX8 101 "WrongWordModel" "faultPlace" "I", Cond.fieldLink RX8 98 "WrongWordModel" "token" "I", Cond.fieldLink RX8 95 "WrongWordModel" "value" "I", Cond.fieldLink RX8 82 "WrongWordModel" "taped" "I", Cond.constant RX8 144 (-1000100), Cond.fieldLink RX8 25 "WrongWordModel" "now" "[I", Cond.fieldLink RX8 149 "WrongWordModel" "acts" "I", Cond.methodLink RX8 111 yX8_advances, Cond.instanceMethod yX8_advances, Cond.fieldLink RX8 89 "WrongWordModel" "start" "I", Cond.methodLink RX8 92 yX8_byteAt, Cond.fieldLink RX8 22 "WrongWordModel" "tape" "[I", Cond.methodLink RX8 56 yX8_in, Cond.methodLink RX8 114 yX8_takes, Cond.instanceMethod yX8_takes, Cond.fieldLink RX8 108 "WrongWordModel" "faultKind" "I", Cond.methodLink RX8 104 yX8_isWell, Cond.instanceMethod yX8_isWell, Cond.methodLink RX8 118 yX8_figure, Cond.instanceMethod yX8_figure, Cond.methodLink RX8 131 yX8_follows, Cond.instanceMethod yX8_follows, Cond.methodLink RX8 134 yX8_must, Cond.instanceMethod yX8_must, Cond.methodLink RX8 138 yX8_readsWord, Cond.instanceMethod yX8_readsWord, Cond.methodLink RX8 121 yX8_letterOf, Cond.methodLink RX8 125 yX8_isTold, Cond.methodLink RX8 128 yX8_kindOf, Cond.static yX8_kindOf, Cond.methodLink RX8 141 yX8_readsGuard, Cond.instanceMethod yX8_readsGuard, Cond.methodLink RX8 145 yX8_copies, Cond.static yX8_copies] : List Cond) ++ ([] : List Cond))))
def wsX8_gate : List Cond := .code yX8_gate cX8_gate 2 (some .int) :: (wsX8_gate_o ++ (wsX80 ++ (wsX8_advances ++ (wsX8_takes ++ (wsX8_figure ++ (wsX8_follows ++ (wsX8_must ++ (wsX8_isWell ++ (wsX8_readsWord ++ (wsX8_kindOf ++ (wsX8_readsGuard ++ (wsX8_copies ++ ([] : List Cond)))))))))))))
set_option maxRecDepth 100000 in
theorem itX8_gate_o : ∀ w ∈ wsX8_gate_o, w ∈ lw_tbl := List.forall_mem_append.mpr ⟨fun w h => ch_0 w (mem_r (big := k2_sels lw_privs) _ [31, 32, 33, 34, 35, 36, 37, 38, 39, 40, 41] (by decide +kernel) w h), List.forall_mem_append.mpr ⟨fun w h => ch_1 w (mem_r (big := tables_1_1) _ [9] (by decide +kernel) w h), List.forall_mem_append.mpr ⟨fun w h => ch_4 w (mem_r (big := tables_1_4) _ [65, 60, 59, 62, 63, 57, 221, 64, 68, 174, 176, 61, 178, 56, 129, 182, 184, 58, 186, 188, 190, 192, 194, 196, 198, 200, 202, 204, 206, 210, 214, 215, 217, 219, 222, 223] (by decide +kernel) w h), fun _ h => absurd h List.not_mem_nil⟩⟩⟩
set_option maxRecDepth 100000 in
theorem itX8_gate : ∀ w ∈ wsX8_gate, w ∈ lw_tbl := List.forall_mem_cons.mpr ⟨ch_4 _ (List.mem_of_getElem? (l := tables_1_4) (i := 173) (by decide +kernel)), List.forall_mem_append.mpr ⟨itX8_gate_o, List.forall_mem_append.mpr ⟨itX80, List.forall_mem_append.mpr ⟨itX8_advances, List.forall_mem_append.mpr ⟨itX8_takes, List.forall_mem_append.mpr ⟨itX8_figure, List.forall_mem_append.mpr ⟨itX8_follows, List.forall_mem_append.mpr ⟨itX8_must, List.forall_mem_append.mpr ⟨itX8_isWell, List.forall_mem_append.mpr ⟨itX8_readsWord, List.forall_mem_append.mpr ⟨itX8_kindOf, List.forall_mem_append.mpr ⟨itX8_readsGuard, List.forall_mem_append.mpr ⟨itX8_copies, fun _ h => absurd h List.not_mem_nil⟩⟩⟩⟩⟩⟩⟩⟩⟩⟩⟩⟩⟩
set_option maxRecDepth 100000 in
theorem gdX8_gate_o : ∀ w ∈ wsX8_gate_o, goodWord w = true := gd_o (by decide +kernel)
set_option maxRecDepth 100000 in
theorem gdX8_gate : ∀ w ∈ wsX8_gate, goodWord w = true := List.forall_mem_cons.mpr ⟨by decide +kernel, List.forall_mem_append.mpr ⟨gdX8_gate_o, List.forall_mem_append.mpr ⟨gdX80, List.forall_mem_append.mpr ⟨gdX8_advances, List.forall_mem_append.mpr ⟨gdX8_takes, List.forall_mem_append.mpr ⟨gdX8_figure, List.forall_mem_append.mpr ⟨gdX8_follows, List.forall_mem_append.mpr ⟨gdX8_must, List.forall_mem_append.mpr ⟨gdX8_isWell, List.forall_mem_append.mpr ⟨gdX8_readsWord, List.forall_mem_append.mpr ⟨gdX8_kindOf, List.forall_mem_append.mpr ⟨gdX8_readsGuard, List.forall_mem_append.mpr ⟨gdX8_copies, fun _ h => absurd h List.not_mem_nil⟩⟩⟩⟩⟩⟩⟩⟩⟩⟩⟩⟩⟩
def wsX8_fault_o : List Cond := (([Cond.fieldLink RX8 108 "WrongWordModel" "faultKind" "I"] : List Cond) ++ ([] : List Cond))
def wsX8_fault : List Cond := .code yX8_fault cX8_fault 1 (some .int) :: (wsX8_fault_o ++ (wsX80 ++ ([] : List Cond)))
set_option maxRecDepth 100000 in
theorem itX8_fault_o : ∀ w ∈ wsX8_fault_o, w ∈ lw_tbl := List.forall_mem_append.mpr ⟨fun w h => ch_4 w (mem_r (big := tables_1_4) _ [58] (by decide +kernel) w h), fun _ h => absurd h List.not_mem_nil⟩
set_option maxRecDepth 100000 in
theorem itX8_fault : ∀ w ∈ wsX8_fault, w ∈ lw_tbl := List.forall_mem_cons.mpr ⟨ch_4 _ (List.mem_of_getElem? (l := tables_1_4) (i := 228) (by decide +kernel)), List.forall_mem_append.mpr ⟨itX8_fault_o, List.forall_mem_append.mpr ⟨itX80, fun _ h => absurd h List.not_mem_nil⟩⟩⟩
set_option maxRecDepth 100000 in
theorem gdX8_fault_o : ∀ w ∈ wsX8_fault_o, goodWord w = true := gd_o (by decide +kernel)
set_option maxRecDepth 100000 in
theorem gdX8_fault : ∀ w ∈ wsX8_fault, goodWord w = true := List.forall_mem_cons.mpr ⟨by decide +kernel, List.forall_mem_append.mpr ⟨gdX8_fault_o, List.forall_mem_append.mpr ⟨gdX80, fun _ h => absurd h List.not_mem_nil⟩⟩⟩
def wsX8_isGate_o : List Cond := (([Cond.fieldLink RX8 25 "WrongWordModel" "now" "[I"] : List Cond) ++ ([] : List Cond))
def wsX8_isGate : List Cond := .code yX8_isGate cX8_isGate 1 (some .boolean) :: (wsX8_isGate_o ++ (wsX80 ++ ([] : List Cond)))
set_option maxRecDepth 100000 in
theorem itX8_isGate_o : ∀ w ∈ wsX8_isGate_o, w ∈ lw_tbl := List.forall_mem_append.mpr ⟨fun w h => ch_4 w (mem_r (big := tables_1_4) _ [64] (by decide +kernel) w h), fun _ h => absurd h List.not_mem_nil⟩
set_option maxRecDepth 100000 in
theorem itX8_isGate : ∀ w ∈ wsX8_isGate, w ∈ lw_tbl := List.forall_mem_cons.mpr ⟨ch_4 _ (List.mem_of_getElem? (l := tables_1_4) (i := 236) (by decide +kernel)), List.forall_mem_append.mpr ⟨itX8_isGate_o, List.forall_mem_append.mpr ⟨itX80, fun _ h => absurd h List.not_mem_nil⟩⟩⟩
set_option maxRecDepth 100000 in
theorem gdX8_isGate_o : ∀ w ∈ wsX8_isGate_o, goodWord w = true := gd_o (by decide +kernel)
set_option maxRecDepth 100000 in
theorem gdX8_isGate : ∀ w ∈ wsX8_isGate, goodWord w = true := List.forall_mem_cons.mpr ⟨by decide +kernel, List.forall_mem_append.mpr ⟨gdX8_isGate_o, List.forall_mem_append.mpr ⟨gdX80, fun _ h => absurd h List.not_mem_nil⟩⟩⟩
def wsX8_isWord_o : List Cond := (([Cond.initialized RX8] : List Cond) ++ (([Cond.fieldLink RX8 25 "WrongWordModel" "now" "[I", Cond.methodLink RX8 56 yX8_in, Cond.static yX8_in] : List Cond) ++ ([] : List Cond)))
def wsX8_isWord : List Cond := .code yX8_isWord cX8_isWord 2 (some .boolean) :: (wsX8_isWord_o ++ (wsX80 ++ (wsX8_in ++ ([] : List Cond))))
set_option maxRecDepth 100000 in
theorem itX8_isWord_o : ∀ w ∈ wsX8_isWord_o, w ∈ lw_tbl := List.forall_mem_append.mpr ⟨fun w h => ch_1 w (mem_r (big := tables_1_1) _ [9] (by decide +kernel) w h), List.forall_mem_append.mpr ⟨fun w h => ch_4 w (mem_r (big := tables_1_4) _ [64, 129, 130] (by decide +kernel) w h), fun _ h => absurd h List.not_mem_nil⟩⟩
set_option maxRecDepth 100000 in
theorem itX8_isWord : ∀ w ∈ wsX8_isWord, w ∈ lw_tbl := List.forall_mem_cons.mpr ⟨ch_5 _ (List.mem_of_getElem? (l := tables_1_5) (i := 16) (by decide +kernel)), List.forall_mem_append.mpr ⟨itX8_isWord_o, List.forall_mem_append.mpr ⟨itX80, List.forall_mem_append.mpr ⟨itX8_in, fun _ h => absurd h List.not_mem_nil⟩⟩⟩⟩
set_option maxRecDepth 100000 in
theorem gdX8_isWord_o : ∀ w ∈ wsX8_isWord_o, goodWord w = true := gd_o (by decide +kernel)
set_option maxRecDepth 100000 in
theorem gdX8_isWord : ∀ w ∈ wsX8_isWord, goodWord w = true := List.forall_mem_cons.mpr ⟨by decide +kernel, List.forall_mem_append.mpr ⟨gdX8_isWord_o, List.forall_mem_append.mpr ⟨gdX80, List.forall_mem_append.mpr ⟨gdX8_in, fun _ h => absurd h List.not_mem_nil⟩⟩⟩⟩
def wsX8_isGuard_o : List Cond := (([Cond.initialized RX8] : List Cond) ++ (([Cond.fieldLink RX8 25 "WrongWordModel" "now" "[I", Cond.methodLink RX8 56 yX8_in, Cond.static yX8_in] : List Cond) ++ ([] : List Cond)))
def wsX8_isGuard : List Cond := .code yX8_isGuard cX8_isGuard 2 (some .boolean) :: (wsX8_isGuard_o ++ (wsX80 ++ (wsX8_in ++ ([] : List Cond))))
set_option maxRecDepth 100000 in
theorem itX8_isGuard_o : ∀ w ∈ wsX8_isGuard_o, w ∈ lw_tbl := List.forall_mem_append.mpr ⟨fun w h => ch_1 w (mem_r (big := tables_1_1) _ [9] (by decide +kernel) w h), List.forall_mem_append.mpr ⟨fun w h => ch_4 w (mem_r (big := tables_1_4) _ [64, 129, 130] (by decide +kernel) w h), fun _ h => absurd h List.not_mem_nil⟩⟩
set_option maxRecDepth 100000 in
theorem itX8_isGuard : ∀ w ∈ wsX8_isGuard, w ∈ lw_tbl := List.forall_mem_cons.mpr ⟨ch_5 _ (List.mem_of_getElem? (l := tables_1_5) (i := 62) (by decide +kernel)), List.forall_mem_append.mpr ⟨itX8_isGuard_o, List.forall_mem_append.mpr ⟨itX80, List.forall_mem_append.mpr ⟨itX8_in, fun _ h => absurd h List.not_mem_nil⟩⟩⟩⟩
set_option maxRecDepth 100000 in
theorem gdX8_isGuard_o : ∀ w ∈ wsX8_isGuard_o, goodWord w = true := gd_o (by decide +kernel)
set_option maxRecDepth 100000 in
theorem gdX8_isGuard : ∀ w ∈ wsX8_isGuard, goodWord w = true := List.forall_mem_cons.mpr ⟨by decide +kernel, List.forall_mem_append.mpr ⟨gdX8_isGuard_o, List.forall_mem_append.mpr ⟨gdX80, List.forall_mem_append.mpr ⟨gdX8_in, fun _ h => absurd h List.not_mem_nil⟩⟩⟩⟩
def wsX8_isHour_o : List Cond := (([Cond.initialized RX8] : List Cond) ++ (([Cond.methodLink RX8 56 yX8_in, Cond.static yX8_in] : List Cond) ++ ([] : List Cond)))
def wsX8_isHour : List Cond := .code yX8_isHour cX8_isHour 1 (some .boolean) :: (wsX8_isHour_o ++ (wsX8_in ++ ([] : List Cond)))
set_option maxRecDepth 100000 in
theorem itX8_isHour_o : ∀ w ∈ wsX8_isHour_o, w ∈ lw_tbl := List.forall_mem_append.mpr ⟨fun w h => ch_1 w (mem_r (big := tables_1_1) _ [9] (by decide +kernel) w h), List.forall_mem_append.mpr ⟨fun w h => ch_4 w (mem_r (big := tables_1_4) _ [129, 130] (by decide +kernel) w h), fun _ h => absurd h List.not_mem_nil⟩⟩
set_option maxRecDepth 100000 in
theorem itX8_isHour : ∀ w ∈ wsX8_isHour, w ∈ lw_tbl := List.forall_mem_cons.mpr ⟨ch_5 _ (List.mem_of_getElem? (l := tables_1_5) (i := 19) (by decide +kernel)), List.forall_mem_append.mpr ⟨itX8_isHour_o, List.forall_mem_append.mpr ⟨itX8_in, fun _ h => absurd h List.not_mem_nil⟩⟩⟩
set_option maxRecDepth 100000 in
theorem gdX8_isHour_o : ∀ w ∈ wsX8_isHour_o, goodWord w = true := gd_o (by decide +kernel)
set_option maxRecDepth 100000 in
theorem gdX8_isHour : ∀ w ∈ wsX8_isHour, goodWord w = true := List.forall_mem_cons.mpr ⟨by decide +kernel, List.forall_mem_append.mpr ⟨gdX8_isHour_o, List.forall_mem_append.mpr ⟨gdX8_in, fun _ h => absurd h List.not_mem_nil⟩⟩⟩
def wsX8_isFar_o : List Cond := (([Cond.initialized RX8] : List Cond) ++ (([Cond.methodLink RX8 56 yX8_in, Cond.static yX8_in] : List Cond) ++ ([] : List Cond)))
def wsX8_isFar : List Cond := .code yX8_isFar cX8_isFar 1 (some .boolean) :: (wsX8_isFar_o ++ (wsX8_in ++ ([] : List Cond)))
set_option maxRecDepth 100000 in
theorem itX8_isFar_o : ∀ w ∈ wsX8_isFar_o, w ∈ lw_tbl := List.forall_mem_append.mpr ⟨fun w h => ch_1 w (mem_r (big := tables_1_1) _ [9] (by decide +kernel) w h), List.forall_mem_append.mpr ⟨fun w h => ch_4 w (mem_r (big := tables_1_4) _ [129, 130] (by decide +kernel) w h), fun _ h => absurd h List.not_mem_nil⟩⟩
set_option maxRecDepth 100000 in
theorem itX8_isFar : ∀ w ∈ wsX8_isFar, w ∈ lw_tbl := List.forall_mem_cons.mpr ⟨ch_5 _ (List.mem_of_getElem? (l := tables_1_5) (i := 93) (by decide +kernel)), List.forall_mem_append.mpr ⟨itX8_isFar_o, List.forall_mem_append.mpr ⟨itX8_in, fun _ h => absurd h List.not_mem_nil⟩⟩⟩
set_option maxRecDepth 100000 in
theorem gdX8_isFar_o : ∀ w ∈ wsX8_isFar_o, goodWord w = true := gd_o (by decide +kernel)
set_option maxRecDepth 100000 in
theorem gdX8_isFar : ∀ w ∈ wsX8_isFar, goodWord w = true := List.forall_mem_cons.mpr ⟨by decide +kernel, List.forall_mem_append.mpr ⟨gdX8_isFar_o, List.forall_mem_append.mpr ⟨gdX8_in, fun _ h => absurd h List.not_mem_nil⟩⟩⟩
def wsX8_areWords_o : List Cond := (([Cond.initialized RX8] : List Cond) ++ (([Cond.fieldLink RX8 25 "WrongWordModel" "now" "[I", Cond.methodLink RX8 56 yX8_in, Cond.static yX8_in] : List Cond) ++ ([] : List Cond)))
def wsX8_areWords : List Cond := .code yX8_areWords cX8_areWords 2 (some .boolean) :: (wsX8_areWords_o ++ (wsX80 ++ (wsX8_in ++ ([] : List Cond))))
set_option maxRecDepth 100000 in
theorem itX8_areWords_o : ∀ w ∈ wsX8_areWords_o, w ∈ lw_tbl := List.forall_mem_append.mpr ⟨fun w h => ch_1 w (mem_r (big := tables_1_1) _ [9] (by decide +kernel) w h), List.forall_mem_append.mpr ⟨fun w h => ch_4 w (mem_r (big := tables_1_4) _ [64, 129, 130] (by decide +kernel) w h), fun _ h => absurd h List.not_mem_nil⟩⟩
set_option maxRecDepth 100000 in
theorem itX8_areWords : ∀ w ∈ wsX8_areWords, w ∈ lw_tbl := List.forall_mem_cons.mpr ⟨ch_5 _ (List.mem_of_getElem? (l := tables_1_5) (i := 109) (by decide +kernel)), List.forall_mem_append.mpr ⟨itX8_areWords_o, List.forall_mem_append.mpr ⟨itX80, List.forall_mem_append.mpr ⟨itX8_in, fun _ h => absurd h List.not_mem_nil⟩⟩⟩⟩
set_option maxRecDepth 100000 in
theorem gdX8_areWords_o : ∀ w ∈ wsX8_areWords_o, goodWord w = true := gd_o (by decide +kernel)
set_option maxRecDepth 100000 in
theorem gdX8_areWords : ∀ w ∈ wsX8_areWords, goodWord w = true := List.forall_mem_cons.mpr ⟨by decide +kernel, List.forall_mem_append.mpr ⟨gdX8_areWords_o, List.forall_mem_append.mpr ⟨gdX80, List.forall_mem_append.mpr ⟨gdX8_in, fun _ h => absurd h List.not_mem_nil⟩⟩⟩⟩
def wsX8_secretOf_o : List Cond := ([] : List Cond)
def wsX8_secretOf : List Cond := .code yX8_secretOf cX8_secretOf 2 (some .int) :: (wsX8_secretOf_o ++ ([] : List Cond))
set_option maxRecDepth 100000 in
theorem itX8_secretOf_o : ∀ w ∈ wsX8_secretOf_o, w ∈ lw_tbl := fun _ h => absurd h List.not_mem_nil
set_option maxRecDepth 100000 in
theorem itX8_secretOf : ∀ w ∈ wsX8_secretOf, w ∈ lw_tbl := List.forall_mem_cons.mpr ⟨ch_5 _ (List.mem_of_getElem? (l := tables_1_5) (i := 8) (by decide +kernel)), List.forall_mem_append.mpr ⟨itX8_secretOf_o, fun _ h => absurd h List.not_mem_nil⟩⟩
set_option maxRecDepth 100000 in
theorem gdX8_secretOf_o : ∀ w ∈ wsX8_secretOf_o, goodWord w = true := gd_o (by decide +kernel)
set_option maxRecDepth 100000 in
theorem gdX8_secretOf : ∀ w ∈ wsX8_secretOf, goodWord w = true := List.forall_mem_cons.mpr ⟨by decide +kernel, List.forall_mem_append.mpr ⟨gdX8_secretOf_o, fun _ h => absurd h List.not_mem_nil⟩⟩
def wsX8_distance_o : List Cond := (([Cond.fieldLink RX8 25 "WrongWordModel" "now" "[I"] : List Cond) ++ ([] : List Cond))
def wsX8_distance : List Cond := .code yX8_distance cX8_distance 5 (some .int) :: (wsX8_distance_o ++ (wsX80 ++ ([] : List Cond)))
set_option maxRecDepth 100000 in
theorem itX8_distance_o : ∀ w ∈ wsX8_distance_o, w ∈ lw_tbl := List.forall_mem_append.mpr ⟨fun w h => ch_4 w (mem_r (big := tables_1_4) _ [64] (by decide +kernel) w h), fun _ h => absurd h List.not_mem_nil⟩
set_option maxRecDepth 100000 in
theorem itX8_distance : ∀ w ∈ wsX8_distance, w ∈ lw_tbl := List.forall_mem_cons.mpr ⟨ch_5 _ (List.mem_of_getElem? (l := tables_1_5) (i := 46) (by decide +kernel)), List.forall_mem_append.mpr ⟨itX8_distance_o, List.forall_mem_append.mpr ⟨itX80, fun _ h => absurd h List.not_mem_nil⟩⟩⟩
set_option maxRecDepth 100000 in
theorem gdX8_distance_o : ∀ w ∈ wsX8_distance_o, goodWord w = true := gd_o (by decide +kernel)
set_option maxRecDepth 100000 in
theorem gdX8_distance : ∀ w ∈ wsX8_distance, goodWord w = true := List.forall_mem_cons.mpr ⟨by decide +kernel, List.forall_mem_append.mpr ⟨gdX8_distance_o, List.forall_mem_append.mpr ⟨gdX80, fun _ h => absurd h List.not_mem_nil⟩⟩⟩
def wsX8_lips_o : List Cond := (([Cond.fieldLink RX8 25 "WrongWordModel" "now" "[I"] : List Cond) ++ ([] : List Cond))
def wsX8_lips : List Cond := .code yX8_lips cX8_lips 5 (some .int) :: (wsX8_lips_o ++ (wsX80 ++ ([] : List Cond)))
set_option maxRecDepth 100000 in
theorem itX8_lips_o : ∀ w ∈ wsX8_lips_o, w ∈ lw_tbl := List.forall_mem_append.mpr ⟨fun w h => ch_4 w (mem_r (big := tables_1_4) _ [64] (by decide +kernel) w h), fun _ h => absurd h List.not_mem_nil⟩
set_option maxRecDepth 100000 in
theorem itX8_lips : ∀ w ∈ wsX8_lips, w ∈ lw_tbl := List.forall_mem_cons.mpr ⟨ch_5 _ (List.mem_of_getElem? (l := tables_1_5) (i := 50) (by decide +kernel)), List.forall_mem_append.mpr ⟨itX8_lips_o, List.forall_mem_append.mpr ⟨itX80, fun _ h => absurd h List.not_mem_nil⟩⟩⟩
set_option maxRecDepth 100000 in
theorem gdX8_lips_o : ∀ w ∈ wsX8_lips_o, goodWord w = true := gd_o (by decide +kernel)
set_option maxRecDepth 100000 in
theorem gdX8_lips : ∀ w ∈ wsX8_lips, goodWord w = true := List.forall_mem_cons.mpr ⟨by decide +kernel, List.forall_mem_append.mpr ⟨gdX8_lips_o, List.forall_mem_append.mpr ⟨gdX80, fun _ h => absurd h List.not_mem_nil⟩⟩⟩
def wsX8_takesBy_o : List Cond := (([Cond.selects RX8 yX8_distance yX8_distance, Cond.selects RX8 yX8_lips yX8_lips] : List Cond) ++ (([Cond.initialized RX8] : List Cond) ++ (([Cond.fieldLink RX8 25 "WrongWordModel" "now" "[I"] : List Cond) ++ (([Cond.methodLink RX8 152 yX8_distance, Cond.instanceMethod yX8_distance, Cond.methodLink RX8 155 yX8_lips, Cond.instanceMethod yX8_lips] : List Cond) ++ ([] : List Cond)))))
def wsX8_takesBy : List Cond := .code yX8_takesBy cX8_takesBy 5 (some .boolean) :: (wsX8_takesBy_o ++ (wsX80 ++ (wsX8_distance ++ (wsX8_lips ++ ([] : List Cond)))))
set_option maxRecDepth 100000 in
theorem itX8_takesBy_o : ∀ w ∈ wsX8_takesBy_o, w ∈ lw_tbl := List.forall_mem_append.mpr ⟨fun w h => ch_0 w (mem_r (big := k2_sels lw_privs) _ [51, 52] (by decide +kernel) w h), List.forall_mem_append.mpr ⟨fun w h => ch_1 w (mem_r (big := tables_1_1) _ [9] (by decide +kernel) w h), List.forall_mem_append.mpr ⟨fun w h => ch_4 w (mem_r (big := tables_1_4) _ [64] (by decide +kernel) w h), List.forall_mem_append.mpr ⟨fun w h => ch_5 w (mem_r (big := tables_1_5) _ [43, 45, 47, 49] (by decide +kernel) w h), fun _ h => absurd h List.not_mem_nil⟩⟩⟩⟩
set_option maxRecDepth 100000 in
theorem itX8_takesBy : ∀ w ∈ wsX8_takesBy, w ∈ lw_tbl := List.forall_mem_cons.mpr ⟨ch_5 _ (List.mem_of_getElem? (l := tables_1_5) (i := 42) (by decide +kernel)), List.forall_mem_append.mpr ⟨itX8_takesBy_o, List.forall_mem_append.mpr ⟨itX80, List.forall_mem_append.mpr ⟨itX8_distance, List.forall_mem_append.mpr ⟨itX8_lips, fun _ h => absurd h List.not_mem_nil⟩⟩⟩⟩⟩
set_option maxRecDepth 100000 in
theorem gdX8_takesBy_o : ∀ w ∈ wsX8_takesBy_o, goodWord w = true := gd_o (by decide +kernel)
set_option maxRecDepth 100000 in
theorem gdX8_takesBy : ∀ w ∈ wsX8_takesBy, goodWord w = true := List.forall_mem_cons.mpr ⟨by decide +kernel, List.forall_mem_append.mpr ⟨gdX8_takesBy_o, List.forall_mem_append.mpr ⟨gdX80, List.forall_mem_append.mpr ⟨gdX8_distance, List.forall_mem_append.mpr ⟨gdX8_lips, fun _ h => absurd h List.not_mem_nil⟩⟩⟩⟩⟩
def wsX8_guardOn_o : List Cond := (([Cond.fieldLink RX8 25 "WrongWordModel" "now" "[I"] : List Cond) ++ ([] : List Cond))
def wsX8_guardOn : List Cond := .code yX8_guardOn cX8_guardOn 3 (some .int) :: (wsX8_guardOn_o ++ (wsX80 ++ ([] : List Cond)))
set_option maxRecDepth 100000 in
theorem itX8_guardOn_o : ∀ w ∈ wsX8_guardOn_o, w ∈ lw_tbl := List.forall_mem_append.mpr ⟨fun w h => ch_4 w (mem_r (big := tables_1_4) _ [64] (by decide +kernel) w h), fun _ h => absurd h List.not_mem_nil⟩
set_option maxRecDepth 100000 in
theorem itX8_guardOn : ∀ w ∈ wsX8_guardOn, w ∈ lw_tbl := List.forall_mem_cons.mpr ⟨ch_5 _ (List.mem_of_getElem? (l := tables_1_5) (i := 23) (by decide +kernel)), List.forall_mem_append.mpr ⟨itX8_guardOn_o, List.forall_mem_append.mpr ⟨itX80, fun _ h => absurd h List.not_mem_nil⟩⟩⟩
set_option maxRecDepth 100000 in
theorem gdX8_guardOn_o : ∀ w ∈ wsX8_guardOn_o, goodWord w = true := gd_o (by decide +kernel)
set_option maxRecDepth 100000 in
theorem gdX8_guardOn : ∀ w ∈ wsX8_guardOn, goodWord w = true := List.forall_mem_cons.mpr ⟨by decide +kernel, List.forall_mem_append.mpr ⟨gdX8_guardOn_o, List.forall_mem_append.mpr ⟨gdX80, fun _ h => absurd h List.not_mem_nil⟩⟩⟩
def wsX8_kindIn_o : List Cond := (([Cond.fieldLink RX8 25 "WrongWordModel" "now" "[I"] : List Cond) ++ ([] : List Cond))
def wsX8_kindIn : List Cond := .code yX8_kindIn cX8_kindIn 2 (some .int) :: (wsX8_kindIn_o ++ (wsX80 ++ ([] : List Cond)))
set_option maxRecDepth 100000 in
theorem itX8_kindIn_o : ∀ w ∈ wsX8_kindIn_o, w ∈ lw_tbl := List.forall_mem_append.mpr ⟨fun w h => ch_4 w (mem_r (big := tables_1_4) _ [64] (by decide +kernel) w h), fun _ h => absurd h List.not_mem_nil⟩
set_option maxRecDepth 100000 in
theorem itX8_kindIn : ∀ w ∈ wsX8_kindIn, w ∈ lw_tbl := List.forall_mem_cons.mpr ⟨ch_5 _ (List.mem_of_getElem? (l := tables_1_5) (i := 38) (by decide +kernel)), List.forall_mem_append.mpr ⟨itX8_kindIn_o, List.forall_mem_append.mpr ⟨itX80, fun _ h => absurd h List.not_mem_nil⟩⟩⟩
set_option maxRecDepth 100000 in
theorem gdX8_kindIn_o : ∀ w ∈ wsX8_kindIn_o, goodWord w = true := gd_o (by decide +kernel)
set_option maxRecDepth 100000 in
theorem gdX8_kindIn : ∀ w ∈ wsX8_kindIn, goodWord w = true := List.forall_mem_cons.mpr ⟨by decide +kernel, List.forall_mem_append.mpr ⟨gdX8_kindIn_o, List.forall_mem_append.mpr ⟨gdX80, fun _ h => absurd h List.not_mem_nil⟩⟩⟩
def wsX8_isTaken_o : List Cond := (([Cond.selects RX8 yX8_guardOn yX8_guardOn, Cond.selects RX8 yX8_kindIn yX8_kindIn, Cond.selects RX8 yX8_takesBy yX8_takesBy, Cond.selects RX8 yX8_distance yX8_distance, Cond.selects RX8 yX8_lips yX8_lips] : List Cond) ++ (([Cond.initialized RX8] : List Cond) ++ (([Cond.fieldLink RX8 25 "WrongWordModel" "now" "[I"] : List Cond) ++ (([Cond.methodLink RX8 158 yX8_guardOn, Cond.instanceMethod yX8_guardOn, Cond.methodLink RX8 161 yX8_has, Cond.static yX8_has, Cond.methodLink RX8 165 yX8_kindIn, Cond.instanceMethod yX8_kindIn, Cond.methodLink RX8 168 yX8_takesBy, Cond.instanceMethod yX8_takesBy, Cond.methodLink RX8 152 yX8_distance, Cond.methodLink RX8 155 yX8_lips] : List Cond) ++ ([] : List Cond)))))
def wsX8_isTaken : List Cond := .code yX8_isTaken cX8_isTaken 7 (some .boolean) :: (wsX8_isTaken_o ++ (wsX80 ++ (wsX8_guardOn ++ (wsX8_has ++ (wsX8_kindIn ++ (wsX8_takesBy ++ ([] : List Cond)))))))
set_option maxRecDepth 100000 in
theorem itX8_isTaken_o : ∀ w ∈ wsX8_isTaken_o, w ∈ lw_tbl := List.forall_mem_append.mpr ⟨fun w h => ch_0 w (mem_r (big := k2_sels lw_privs) _ [46, 49, 50, 51, 52] (by decide +kernel) w h), List.forall_mem_append.mpr ⟨fun w h => ch_1 w (mem_r (big := tables_1_1) _ [9] (by decide +kernel) w h), List.forall_mem_append.mpr ⟨fun w h => ch_4 w (mem_r (big := tables_1_4) _ [64] (by decide +kernel) w h), List.forall_mem_append.mpr ⟨fun w h => ch_5 w (mem_r (big := tables_1_5) _ [20, 22, 32, 33, 35, 37, 39, 41, 43, 47] (by decide +kernel) w h), fun _ h => absurd h List.not_mem_nil⟩⟩⟩⟩
set_option maxRecDepth 100000 in
theorem itX8_isTaken : ∀ w ∈ wsX8_isTaken, w ∈ lw_tbl := List.forall_mem_cons.mpr ⟨ch_5 _ (List.mem_of_getElem? (l := tables_1_5) (i := 31) (by decide +kernel)), List.forall_mem_append.mpr ⟨itX8_isTaken_o, List.forall_mem_append.mpr ⟨itX80, List.forall_mem_append.mpr ⟨itX8_guardOn, List.forall_mem_append.mpr ⟨itX8_has, List.forall_mem_append.mpr ⟨itX8_kindIn, List.forall_mem_append.mpr ⟨itX8_takesBy, fun _ h => absurd h List.not_mem_nil⟩⟩⟩⟩⟩⟩⟩
set_option maxRecDepth 100000 in
theorem gdX8_isTaken_o : ∀ w ∈ wsX8_isTaken_o, goodWord w = true := gd_o (by decide +kernel)
set_option maxRecDepth 100000 in
theorem gdX8_isTaken : ∀ w ∈ wsX8_isTaken, goodWord w = true := List.forall_mem_cons.mpr ⟨by decide +kernel, List.forall_mem_append.mpr ⟨gdX8_isTaken_o, List.forall_mem_append.mpr ⟨gdX80, List.forall_mem_append.mpr ⟨gdX8_guardOn, List.forall_mem_append.mpr ⟨gdX8_has, List.forall_mem_append.mpr ⟨gdX8_kindIn, List.forall_mem_append.mpr ⟨gdX8_takesBy, fun _ h => absurd h List.not_mem_nil⟩⟩⟩⟩⟩⟩⟩
def wsX8_isTakenNow_o : List Cond := (([Cond.selects RX8 yX8_isTaken yX8_isTaken, Cond.selects RX8 yX8_guardOn yX8_guardOn, Cond.selects RX8 yX8_kindIn yX8_kindIn, Cond.selects RX8 yX8_takesBy yX8_takesBy, Cond.selects RX8 yX8_distance yX8_distance, Cond.selects RX8 yX8_lips yX8_lips] : List Cond) ++ (([Cond.initialized RX8] : List Cond) ++ (([Cond.fieldLink RX8 25 "WrongWordModel" "now" "[I"] : List Cond) ++ (([Cond.methodLink RX8 172 yX8_secretOf, Cond.static yX8_secretOf, Cond.methodLink RX8 176 yX8_isTaken, Cond.instanceMethod yX8_isTaken, Cond.methodLink RX8 158 yX8_guardOn, Cond.methodLink RX8 161 yX8_has, Cond.methodLink RX8 165 yX8_kindIn, Cond.methodLink RX8 168 yX8_takesBy, Cond.methodLink RX8 152 yX8_distance, Cond.methodLink RX8 155 yX8_lips] : List Cond) ++ ([] : List Cond)))))
def wsX8_isTakenNow : List Cond := .code yX8_isTakenNow cX8_isTakenNow 5 (some .boolean) :: (wsX8_isTakenNow_o ++ (wsX80 ++ (wsX8_secretOf ++ (wsX8_isTaken ++ ([] : List Cond)))))
set_option maxRecDepth 100000 in
theorem itX8_isTakenNow_o : ∀ w ∈ wsX8_isTakenNow_o, w ∈ lw_tbl := List.forall_mem_append.mpr ⟨fun w h => ch_0 w (mem_r (big := k2_sels lw_privs) _ [48, 46, 49, 50, 51, 52] (by decide +kernel) w h), List.forall_mem_append.mpr ⟨fun w h => ch_1 w (mem_r (big := tables_1_1) _ [9] (by decide +kernel) w h), List.forall_mem_append.mpr ⟨fun w h => ch_4 w (mem_r (big := tables_1_4) _ [64] (by decide +kernel) w h), List.forall_mem_append.mpr ⟨fun w h => ch_5 w (mem_r (big := tables_1_5) _ [6, 7, 28, 30, 20, 32, 35, 39, 43, 47] (by decide +kernel) w h), fun _ h => absurd h List.not_mem_nil⟩⟩⟩⟩
set_option maxRecDepth 100000 in
theorem itX8_isTakenNow : ∀ w ∈ wsX8_isTakenNow, w ∈ lw_tbl := List.forall_mem_cons.mpr ⟨ch_5 _ (List.mem_of_getElem? (l := tables_1_5) (i := 27) (by decide +kernel)), List.forall_mem_append.mpr ⟨itX8_isTakenNow_o, List.forall_mem_append.mpr ⟨itX80, List.forall_mem_append.mpr ⟨itX8_secretOf, List.forall_mem_append.mpr ⟨itX8_isTaken, fun _ h => absurd h List.not_mem_nil⟩⟩⟩⟩⟩
set_option maxRecDepth 100000 in
theorem gdX8_isTakenNow_o : ∀ w ∈ wsX8_isTakenNow_o, goodWord w = true := gd_o (by decide +kernel)
set_option maxRecDepth 100000 in
theorem gdX8_isTakenNow : ∀ w ∈ wsX8_isTakenNow, goodWord w = true := List.forall_mem_cons.mpr ⟨by decide +kernel, List.forall_mem_append.mpr ⟨gdX8_isTakenNow_o, List.forall_mem_append.mpr ⟨gdX80, List.forall_mem_append.mpr ⟨gdX8_secretOf, List.forall_mem_append.mpr ⟨gdX8_isTaken, fun _ h => absurd h List.not_mem_nil⟩⟩⟩⟩⟩
def wsX8_notes_o : List Cond := (([Cond.initialized RX8] : List Cond) ++ (([Cond.fieldLink RX8 149 "WrongWordModel" "acts" "I", Cond.fieldLink RX8 34 "WrongWordModel" "past" "[I", Cond.fieldLink RX8 25 "WrongWordModel" "now" "[I", Cond.methodLink RX8 145 yX8_copies, Cond.static yX8_copies] : List Cond) ++ ([] : List Cond)))
def wsX8_notes : List Cond := .code yX8_notes cX8_notes 2 none :: (wsX8_notes_o ++ (wsX80 ++ (wsX8_copies ++ ([] : List Cond))))
set_option maxRecDepth 100000 in
theorem itX8_notes_o : ∀ w ∈ wsX8_notes_o, w ∈ lw_tbl := List.forall_mem_append.mpr ⟨fun w h => ch_1 w (mem_r (big := tables_1_1) _ [9] (by decide +kernel) w h), List.forall_mem_append.mpr ⟨fun w h => ch_4 w (mem_r (big := tables_1_4) _ [68, 67, 64, 222, 223] (by decide +kernel) w h), fun _ h => absurd h List.not_mem_nil⟩⟩
set_option maxRecDepth 100000 in
theorem itX8_notes : ∀ w ∈ wsX8_notes, w ∈ lw_tbl := List.forall_mem_cons.mpr ⟨ch_5 _ (List.mem_of_getElem? (l := tables_1_5) (i := 1) (by decide +kernel)), List.forall_mem_append.mpr ⟨itX8_notes_o, List.forall_mem_append.mpr ⟨itX80, List.forall_mem_append.mpr ⟨itX8_copies, fun _ h => absurd h List.not_mem_nil⟩⟩⟩⟩
set_option maxRecDepth 100000 in
theorem gdX8_notes_o : ∀ w ∈ wsX8_notes_o, goodWord w = true := gd_o (by decide +kernel)
set_option maxRecDepth 100000 in
theorem gdX8_notes : ∀ w ∈ wsX8_notes, goodWord w = true := List.forall_mem_cons.mpr ⟨by decide +kernel, List.forall_mem_append.mpr ⟨gdX8_notes_o, List.forall_mem_append.mpr ⟨gdX80, List.forall_mem_append.mpr ⟨gdX8_copies, fun _ h => absurd h List.not_mem_nil⟩⟩⟩⟩
def wsX8_forgets_o : List Cond := (([Cond.fieldLink RX8 25 "WrongWordModel" "now" "[I"] : List Cond) ++ ([] : List Cond))
def wsX8_forgets : List Cond := .code yX8_forgets cX8_forgets 2 none :: (wsX8_forgets_o ++ (wsX80 ++ ([] : List Cond)))
set_option maxRecDepth 100000 in
theorem itX8_forgets_o : ∀ w ∈ wsX8_forgets_o, w ∈ lw_tbl := List.forall_mem_append.mpr ⟨fun w h => ch_4 w (mem_r (big := tables_1_4) _ [64] (by decide +kernel) w h), fun _ h => absurd h List.not_mem_nil⟩
set_option maxRecDepth 100000 in
theorem itX8_forgets : ∀ w ∈ wsX8_forgets, w ∈ lw_tbl := List.forall_mem_cons.mpr ⟨ch_5 _ (List.mem_of_getElem? (l := tables_1_5) (i := 5) (by decide +kernel)), List.forall_mem_append.mpr ⟨itX8_forgets_o, List.forall_mem_append.mpr ⟨itX80, fun _ h => absurd h List.not_mem_nil⟩⟩⟩
set_option maxRecDepth 100000 in
theorem gdX8_forgets_o : ∀ w ∈ wsX8_forgets_o, goodWord w = true := gd_o (by decide +kernel)
set_option maxRecDepth 100000 in
theorem gdX8_forgets : ∀ w ∈ wsX8_forgets, goodWord w = true := List.forall_mem_cons.mpr ⟨by decide +kernel, List.forall_mem_append.mpr ⟨gdX8_forgets_o, List.forall_mem_append.mpr ⟨gdX80, fun _ h => absurd h List.not_mem_nil⟩⟩⟩
def wsX8_nights_o : List Cond := (([Cond.selects RX8 yX8_isGate yX8_isGate, Cond.selects RX8 yX8_notes yX8_notes, Cond.selects RX8 yX8_forgets yX8_forgets] : List Cond) ++ (([Cond.initialized RX8] : List Cond) ++ (([Cond.constant RX8 183 (-1000002), Cond.constant RX8 64 (-1000001), Cond.fieldLink RX8 25 "WrongWordModel" "now" "[I", Cond.constant RX8 85 (-1000003), Cond.methodLink RX8 180 yX8_isGate, Cond.instanceMethod yX8_isGate, Cond.methodLink RX8 56 yX8_in, Cond.static yX8_in, Cond.methodLink RX8 184 yX8_notes, Cond.fieldLink RX8 149 "WrongWordModel" "acts" "I", Cond.fieldLink RX8 34 "WrongWordModel" "past" "[I", Cond.methodLink RX8 145 yX8_copies] : List Cond) ++ (([Cond.instanceMethod yX8_notes, Cond.methodLink RX8 187 yX8_forgets, Cond.instanceMethod yX8_forgets, Cond.methodLink RX8 172 yX8_secretOf, Cond.static yX8_secretOf] : List Cond) ++ ([] : List Cond)))))
def wsX8_nights : List Cond := .code yX8_nights cX8_nights 3 (some .int) :: (wsX8_nights_o ++ (wsX80 ++ (wsX8_isGate ++ (wsX8_in ++ (wsX8_notes ++ (wsX8_forgets ++ (wsX8_secretOf ++ ([] : List Cond))))))))
set_option maxRecDepth 100000 in
theorem itX8_nights_o : ∀ w ∈ wsX8_nights_o, w ∈ lw_tbl := List.forall_mem_append.mpr ⟨fun w h => ch_0 w (mem_r (big := k2_sels lw_privs) _ [42, 43, 44] (by decide +kernel) w h), List.forall_mem_append.mpr ⟨fun w h => ch_1 w (mem_r (big := tables_1_1) _ [9] (by decide +kernel) w h), List.forall_mem_append.mpr ⟨fun w h => ch_4 w (mem_r (big := tables_1_4) _ [237, 132, 64, 169, 233, 235, 129, 130, 238, 68, 67, 222] (by decide +kernel) w h), List.forall_mem_append.mpr ⟨fun w h => ch_5 w (mem_r (big := tables_1_5) _ [0, 2, 4, 6, 7] (by decide +kernel) w h), fun _ h => absurd h List.not_mem_nil⟩⟩⟩⟩
set_option maxRecDepth 100000 in
theorem itX8_nights : ∀ w ∈ wsX8_nights, w ∈ lw_tbl := List.forall_mem_cons.mpr ⟨ch_4 _ (List.mem_of_getElem? (l := tables_1_4) (i := 232) (by decide +kernel)), List.forall_mem_append.mpr ⟨itX8_nights_o, List.forall_mem_append.mpr ⟨itX80, List.forall_mem_append.mpr ⟨itX8_isGate, List.forall_mem_append.mpr ⟨itX8_in, List.forall_mem_append.mpr ⟨itX8_notes, List.forall_mem_append.mpr ⟨itX8_forgets, List.forall_mem_append.mpr ⟨itX8_secretOf, fun _ h => absurd h List.not_mem_nil⟩⟩⟩⟩⟩⟩⟩⟩
set_option maxRecDepth 100000 in
theorem gdX8_nights_o : ∀ w ∈ wsX8_nights_o, goodWord w = true := gd_o (by decide +kernel)
set_option maxRecDepth 100000 in
theorem gdX8_nights : ∀ w ∈ wsX8_nights, goodWord w = true := List.forall_mem_cons.mpr ⟨by decide +kernel, List.forall_mem_append.mpr ⟨gdX8_nights_o, List.forall_mem_append.mpr ⟨gdX80, List.forall_mem_append.mpr ⟨gdX8_isGate, List.forall_mem_append.mpr ⟨gdX8_in, List.forall_mem_append.mpr ⟨gdX8_notes, List.forall_mem_append.mpr ⟨gdX8_forgets, List.forall_mem_append.mpr ⟨gdX8_secretOf, fun _ h => absurd h List.not_mem_nil⟩⟩⟩⟩⟩⟩⟩⟩
def wsX8_say_o : List Cond := (([Cond.selects RX8 yX8_isWord yX8_isWord, Cond.selects RX8 yX8_notes yX8_notes, Cond.selects RX8 yX8_guardOn yX8_guardOn, Cond.selects RX8 yX8_isTakenNow yX8_isTakenNow, Cond.selects RX8 yX8_isTaken yX8_isTaken, Cond.selects RX8 yX8_kindIn yX8_kindIn, Cond.selects RX8 yX8_takesBy yX8_takesBy, Cond.selects RX8 yX8_distance yX8_distance, Cond.selects RX8 yX8_lips yX8_lips] : List Cond) ++ (([Cond.initialized RX8] : List Cond) ++ (([Cond.constant RX8 64 (-1000001), Cond.fieldLink RX8 25 "WrongWordModel" "now" "[I", Cond.constant RX8 85 (-1000003), Cond.methodLink RX8 56 yX8_in, Cond.methodLink RX8 184 yX8_notes, Cond.fieldLink RX8 149 "WrongWordModel" "acts" "I", Cond.fieldLink RX8 34 "WrongWordModel" "past" "[I", Cond.methodLink RX8 145 yX8_copies] : List Cond) ++ (([Cond.methodLink RX8 190 yX8_isWord, Cond.instanceMethod yX8_isWord, Cond.methodLink RX8 193 yX8_isHour, Cond.static yX8_isHour, Cond.instanceMethod yX8_notes, Cond.methodLink RX8 158 yX8_guardOn, Cond.instanceMethod yX8_guardOn, Cond.methodLink RX8 196 yX8_isTakenNow, Cond.instanceMethod yX8_isTakenNow, Cond.methodLink RX8 172 yX8_secretOf, Cond.methodLink RX8 176 yX8_isTaken, Cond.methodLink RX8 161 yX8_has, Cond.static yX8_has, Cond.methodLink RX8 165 yX8_kindIn, Cond.methodLink RX8 168 yX8_takesBy, Cond.methodLink RX8 152 yX8_distance, Cond.methodLink RX8 155 yX8_lips] : List Cond) ++ ([] : List Cond)))))
def wsX8_say : List Cond := .code yX8_say cX8_say 6 (some .int) :: (wsX8_say_o ++ (wsX80 ++ (wsX8_isWord ++ (wsX8_isHour ++ (wsX8_notes ++ (wsX8_guardOn ++ (wsX8_isTakenNow ++ (wsX8_has ++ ([] : List Cond)))))))))
set_option maxRecDepth 100000 in
theorem itX8_say_o : ∀ w ∈ wsX8_say_o, w ∈ lw_tbl := List.forall_mem_append.mpr ⟨fun w h => ch_0 w (mem_r (big := k2_sels lw_privs) _ [45, 43, 46, 47, 48, 49, 50, 51, 52] (by decide +kernel) w h), List.forall_mem_append.mpr ⟨fun w h => ch_1 w (mem_r (big := tables_1_1) _ [9] (by decide +kernel) w h), List.forall_mem_append.mpr ⟨fun w h => ch_4 w (mem_r (big := tables_1_4) _ [132, 64, 169, 129, 238, 68, 67, 222] (by decide +kernel) w h), List.forall_mem_append.mpr ⟨fun w h => ch_5 w (mem_r (big := tables_1_5) _ [13, 15, 17, 18, 0, 20, 22, 24, 26, 6, 28, 32, 33, 35, 39, 43, 47] (by decide +kernel) w h), fun _ h => absurd h List.not_mem_nil⟩⟩⟩⟩
set_option maxRecDepth 100000 in
theorem itX8_say : ∀ w ∈ wsX8_say, w ∈ lw_tbl := List.forall_mem_cons.mpr ⟨ch_5 _ (List.mem_of_getElem? (l := tables_1_5) (i := 12) (by decide +kernel)), List.forall_mem_append.mpr ⟨itX8_say_o, List.forall_mem_append.mpr ⟨itX80, List.forall_mem_append.mpr ⟨itX8_isWord, List.forall_mem_append.mpr ⟨itX8_isHour, List.forall_mem_append.mpr ⟨itX8_notes, List.forall_mem_append.mpr ⟨itX8_guardOn, List.forall_mem_append.mpr ⟨itX8_isTakenNow, List.forall_mem_append.mpr ⟨itX8_has, fun _ h => absurd h List.not_mem_nil⟩⟩⟩⟩⟩⟩⟩⟩⟩
set_option maxRecDepth 100000 in
theorem gdX8_say_o : ∀ w ∈ wsX8_say_o, goodWord w = true := gd_o (by decide +kernel)
set_option maxRecDepth 100000 in
theorem gdX8_say : ∀ w ∈ wsX8_say, goodWord w = true := List.forall_mem_cons.mpr ⟨by decide +kernel, List.forall_mem_append.mpr ⟨gdX8_say_o, List.forall_mem_append.mpr ⟨gdX80, List.forall_mem_append.mpr ⟨gdX8_isWord, List.forall_mem_append.mpr ⟨gdX8_isHour, List.forall_mem_append.mpr ⟨gdX8_notes, List.forall_mem_append.mpr ⟨gdX8_guardOn, List.forall_mem_append.mpr ⟨gdX8_isTakenNow, List.forall_mem_append.mpr ⟨gdX8_has, fun _ h => absurd h List.not_mem_nil⟩⟩⟩⟩⟩⟩⟩⟩⟩
def wsX8_start_o : List Cond := (([Cond.selects RX8 yX8_isGate yX8_isGate, Cond.selects RX8 yX8_notes yX8_notes] : List Cond) ++ (([Cond.initialized RX8] : List Cond) ++ (([Cond.constant RX8 183 (-1000002), Cond.constant RX8 64 (-1000001), Cond.fieldLink RX8 25 "WrongWordModel" "now" "[I", Cond.methodLink RX8 180 yX8_isGate, Cond.instanceMethod yX8_isGate, Cond.methodLink RX8 56 yX8_in, Cond.static yX8_in, Cond.methodLink RX8 184 yX8_notes, Cond.fieldLink RX8 149 "WrongWordModel" "acts" "I", Cond.fieldLink RX8 34 "WrongWordModel" "past" "[I", Cond.methodLink RX8 145 yX8_copies] : List Cond) ++ (([Cond.instanceMethod yX8_notes] : List Cond) ++ ([] : List Cond)))))
def wsX8_start : List Cond := .code yX8_start cX8_start 3 (some .int) :: (wsX8_start_o ++ (wsX80 ++ (wsX8_isGate ++ (wsX8_in ++ (wsX8_notes ++ ([] : List Cond))))))
set_option maxRecDepth 100000 in
theorem itX8_start_o : ∀ w ∈ wsX8_start_o, w ∈ lw_tbl := List.forall_mem_append.mpr ⟨fun w h => ch_0 w (mem_r (big := k2_sels lw_privs) _ [42, 43] (by decide +kernel) w h), List.forall_mem_append.mpr ⟨fun w h => ch_1 w (mem_r (big := tables_1_1) _ [9] (by decide +kernel) w h), List.forall_mem_append.mpr ⟨fun w h => ch_4 w (mem_r (big := tables_1_4) _ [237, 132, 64, 233, 235, 129, 130, 238, 68, 67, 222] (by decide +kernel) w h), List.forall_mem_append.mpr ⟨fun w h => ch_5 w (mem_r (big := tables_1_5) _ [0] (by decide +kernel) w h), fun _ h => absurd h List.not_mem_nil⟩⟩⟩⟩
set_option maxRecDepth 100000 in
theorem itX8_start : ∀ w ∈ wsX8_start, w ∈ lw_tbl := List.forall_mem_cons.mpr ⟨ch_5 _ (List.mem_of_getElem? (l := tables_1_5) (i := 54) (by decide +kernel)), List.forall_mem_append.mpr ⟨itX8_start_o, List.forall_mem_append.mpr ⟨itX80, List.forall_mem_append.mpr ⟨itX8_isGate, List.forall_mem_append.mpr ⟨itX8_in, List.forall_mem_append.mpr ⟨itX8_notes, fun _ h => absurd h List.not_mem_nil⟩⟩⟩⟩⟩⟩
set_option maxRecDepth 100000 in
theorem gdX8_start_o : ∀ w ∈ wsX8_start_o, goodWord w = true := gd_o (by decide +kernel)
set_option maxRecDepth 100000 in
theorem gdX8_start : ∀ w ∈ wsX8_start, goodWord w = true := List.forall_mem_cons.mpr ⟨by decide +kernel, List.forall_mem_append.mpr ⟨gdX8_start_o, List.forall_mem_append.mpr ⟨gdX80, List.forall_mem_append.mpr ⟨gdX8_isGate, List.forall_mem_append.mpr ⟨gdX8_in, List.forall_mem_append.mpr ⟨gdX8_notes, fun _ h => absurd h List.not_mem_nil⟩⟩⟩⟩⟩⟩
def wsX8_dismiss_o : List Cond := (([Cond.selects RX8 yX8_isGuard yX8_isGuard, Cond.selects RX8 yX8_notes yX8_notes] : List Cond) ++ (([Cond.initialized RX8] : List Cond) ++ (([Cond.constant RX8 64 (-1000001), Cond.fieldLink RX8 25 "WrongWordModel" "now" "[I", Cond.constant RX8 183 (-1000002), Cond.methodLink RX8 56 yX8_in, Cond.static yX8_in, Cond.methodLink RX8 184 yX8_notes, Cond.fieldLink RX8 149 "WrongWordModel" "acts" "I", Cond.fieldLink RX8 34 "WrongWordModel" "past" "[I", Cond.methodLink RX8 145 yX8_copies] : List Cond) ++ (([Cond.methodLink RX8 199 yX8_isGuard, Cond.instanceMethod yX8_isGuard, Cond.instanceMethod yX8_notes] : List Cond) ++ ([] : List Cond)))))
def wsX8_dismiss : List Cond := .code yX8_dismiss cX8_dismiss 3 (some .int) :: (wsX8_dismiss_o ++ (wsX80 ++ (wsX8_isGuard ++ (wsX8_in ++ (wsX8_notes ++ ([] : List Cond))))))
set_option maxRecDepth 100000 in
theorem itX8_dismiss_o : ∀ w ∈ wsX8_dismiss_o, w ∈ lw_tbl := List.forall_mem_append.mpr ⟨fun w h => ch_0 w (mem_r (big := k2_sels lw_privs) _ [53, 43] (by decide +kernel) w h), List.forall_mem_append.mpr ⟨fun w h => ch_1 w (mem_r (big := tables_1_1) _ [9] (by decide +kernel) w h), List.forall_mem_append.mpr ⟨fun w h => ch_4 w (mem_r (big := tables_1_4) _ [132, 64, 237, 129, 130, 238, 68, 67, 222] (by decide +kernel) w h), List.forall_mem_append.mpr ⟨fun w h => ch_5 w (mem_r (big := tables_1_5) _ [59, 61, 0] (by decide +kernel) w h), fun _ h => absurd h List.not_mem_nil⟩⟩⟩⟩
set_option maxRecDepth 100000 in
theorem itX8_dismiss : ∀ w ∈ wsX8_dismiss, w ∈ lw_tbl := List.forall_mem_cons.mpr ⟨ch_5 _ (List.mem_of_getElem? (l := tables_1_5) (i := 58) (by decide +kernel)), List.forall_mem_append.mpr ⟨itX8_dismiss_o, List.forall_mem_append.mpr ⟨itX80, List.forall_mem_append.mpr ⟨itX8_isGuard, List.forall_mem_append.mpr ⟨itX8_in, List.forall_mem_append.mpr ⟨itX8_notes, fun _ h => absurd h List.not_mem_nil⟩⟩⟩⟩⟩⟩
set_option maxRecDepth 100000 in
theorem gdX8_dismiss_o : ∀ w ∈ wsX8_dismiss_o, goodWord w = true := gd_o (by decide +kernel)
set_option maxRecDepth 100000 in
theorem gdX8_dismiss : ∀ w ∈ wsX8_dismiss, goodWord w = true := List.forall_mem_cons.mpr ⟨by decide +kernel, List.forall_mem_append.mpr ⟨gdX8_dismiss_o, List.forall_mem_append.mpr ⟨gdX80, List.forall_mem_append.mpr ⟨gdX8_isGuard, List.forall_mem_append.mpr ⟨gdX8_in, List.forall_mem_append.mpr ⟨gdX8_notes, fun _ h => absurd h List.not_mem_nil⟩⟩⟩⟩⟩⟩
def wsX8_undo_o : List Cond := (([Cond.initialized RX8] : List Cond) ++ (([Cond.fieldLink RX8 149 "WrongWordModel" "acts" "I", Cond.constant RX8 183 (-1000002), Cond.fieldLink RX8 34 "WrongWordModel" "past" "[I", Cond.fieldLink RX8 25 "WrongWordModel" "now" "[I", Cond.methodLink RX8 145 yX8_copies, Cond.static yX8_copies] : List Cond) ++ ([] : List Cond)))
def wsX8_undo : List Cond := .code yX8_undo cX8_undo 1 (some .int) :: (wsX8_undo_o ++ (wsX80 ++ (wsX8_copies ++ ([] : List Cond))))
set_option maxRecDepth 100000 in
theorem itX8_undo_o : ∀ w ∈ wsX8_undo_o, w ∈ lw_tbl := List.forall_mem_append.mpr ⟨fun w h => ch_1 w (mem_r (big := tables_1_1) _ [9] (by decide +kernel) w h), List.forall_mem_append.mpr ⟨fun w h => ch_4 w (mem_r (big := tables_1_4) _ [68, 237, 67, 64, 222, 223] (by decide +kernel) w h), fun _ h => absurd h List.not_mem_nil⟩⟩
set_option maxRecDepth 100000 in
theorem itX8_undo : ∀ w ∈ wsX8_undo, w ∈ lw_tbl := List.forall_mem_cons.mpr ⟨ch_5 _ (List.mem_of_getElem? (l := tables_1_5) (i := 66) (by decide +kernel)), List.forall_mem_append.mpr ⟨itX8_undo_o, List.forall_mem_append.mpr ⟨itX80, List.forall_mem_append.mpr ⟨itX8_copies, fun _ h => absurd h List.not_mem_nil⟩⟩⟩⟩
set_option maxRecDepth 100000 in
theorem gdX8_undo_o : ∀ w ∈ wsX8_undo_o, goodWord w = true := gd_o (by decide +kernel)
set_option maxRecDepth 100000 in
theorem gdX8_undo : ∀ w ∈ wsX8_undo, goodWord w = true := List.forall_mem_cons.mpr ⟨by decide +kernel, List.forall_mem_append.mpr ⟨gdX8_undo_o, List.forall_mem_append.mpr ⟨gdX80, List.forall_mem_append.mpr ⟨gdX8_copies, fun _ h => absurd h List.not_mem_nil⟩⟩⟩⟩
def wsX8_letter_o : List Cond := (([Cond.selects RX8 yX8_isWord yX8_isWord] : List Cond) ++ (([Cond.initialized RX8] : List Cond) ++ (([Cond.fieldLink RX8 25 "WrongWordModel" "now" "[I", Cond.constant RX8 64 (-1000001), Cond.methodLink RX8 56 yX8_in, Cond.static yX8_in] : List Cond) ++ (([Cond.methodLink RX8 190 yX8_isWord, Cond.instanceMethod yX8_isWord] : List Cond) ++ ([] : List Cond)))))
def wsX8_letter : List Cond := .code yX8_letter cX8_letter 3 (some .int) :: (wsX8_letter_o ++ (wsX80 ++ (wsX8_isWord ++ (wsX8_in ++ ([] : List Cond)))))
set_option maxRecDepth 100000 in
theorem itX8_letter_o : ∀ w ∈ wsX8_letter_o, w ∈ lw_tbl := List.forall_mem_append.mpr ⟨fun w h => ch_0 w (mem_r (big := k2_sels lw_privs) _ [45] (by decide +kernel) w h), List.forall_mem_append.mpr ⟨fun w h => ch_1 w (mem_r (big := tables_1_1) _ [9] (by decide +kernel) w h), List.forall_mem_append.mpr ⟨fun w h => ch_4 w (mem_r (big := tables_1_4) _ [64, 132, 129, 130] (by decide +kernel) w h), List.forall_mem_append.mpr ⟨fun w h => ch_5 w (mem_r (big := tables_1_5) _ [13, 15] (by decide +kernel) w h), fun _ h => absurd h List.not_mem_nil⟩⟩⟩⟩
set_option maxRecDepth 100000 in
theorem itX8_letter : ∀ w ∈ wsX8_letter, w ∈ lw_tbl := List.forall_mem_cons.mpr ⟨ch_5 _ (List.mem_of_getElem? (l := tables_1_5) (i := 70) (by decide +kernel)), List.forall_mem_append.mpr ⟨itX8_letter_o, List.forall_mem_append.mpr ⟨itX80, List.forall_mem_append.mpr ⟨itX8_isWord, List.forall_mem_append.mpr ⟨itX8_in, fun _ h => absurd h List.not_mem_nil⟩⟩⟩⟩⟩
set_option maxRecDepth 100000 in
theorem gdX8_letter_o : ∀ w ∈ wsX8_letter_o, goodWord w = true := gd_o (by decide +kernel)
set_option maxRecDepth 100000 in
theorem gdX8_letter : ∀ w ∈ wsX8_letter, goodWord w = true := List.forall_mem_cons.mpr ⟨by decide +kernel, List.forall_mem_append.mpr ⟨gdX8_letter_o, List.forall_mem_append.mpr ⟨gdX80, List.forall_mem_append.mpr ⟨gdX8_isWord, List.forall_mem_append.mpr ⟨gdX8_in, fun _ h => absurd h List.not_mem_nil⟩⟩⟩⟩⟩
def wsX8_like_o : List Cond := (([Cond.selects RX8 yX8_isWord yX8_isWord, Cond.selects RX8 yX8_distance yX8_distance, Cond.selects RX8 yX8_lips yX8_lips] : List Cond) ++ (([Cond.initialized RX8] : List Cond) ++ (([Cond.constant RX8 64 (-1000001), Cond.fieldLink RX8 25 "WrongWordModel" "now" "[I", Cond.methodLink RX8 56 yX8_in, Cond.static yX8_in] : List Cond) ++ (([Cond.methodLink RX8 190 yX8_isWord, Cond.instanceMethod yX8_isWord, Cond.methodLink RX8 152 yX8_distance, Cond.instanceMethod yX8_distance, Cond.methodLink RX8 155 yX8_lips, Cond.instanceMethod yX8_lips] : List Cond) ++ ([] : List Cond)))))
def wsX8_like : List Cond := .code yX8_like cX8_like 4 (some .int) :: (wsX8_like_o ++ (wsX80 ++ (wsX8_isWord ++ (wsX8_in ++ (wsX8_distance ++ (wsX8_lips ++ ([] : List Cond)))))))
set_option maxRecDepth 100000 in
theorem itX8_like_o : ∀ w ∈ wsX8_like_o, w ∈ lw_tbl := List.forall_mem_append.mpr ⟨fun w h => ch_0 w (mem_r (big := k2_sels lw_privs) _ [45, 51, 52] (by decide +kernel) w h), List.forall_mem_append.mpr ⟨fun w h => ch_1 w (mem_r (big := tables_1_1) _ [9] (by decide +kernel) w h), List.forall_mem_append.mpr ⟨fun w h => ch_4 w (mem_r (big := tables_1_4) _ [132, 64, 129, 130] (by decide +kernel) w h), List.forall_mem_append.mpr ⟨fun w h => ch_5 w (mem_r (big := tables_1_5) _ [13, 15, 43, 45, 47, 49] (by decide +kernel) w h), fun _ h => absurd h List.not_mem_nil⟩⟩⟩⟩
set_option maxRecDepth 100000 in
theorem itX8_like : ∀ w ∈ wsX8_like, w ∈ lw_tbl := List.forall_mem_cons.mpr ⟨ch_5 _ (List.mem_of_getElem? (l := tables_1_5) (i := 74) (by decide +kernel)), List.forall_mem_append.mpr ⟨itX8_like_o, List.forall_mem_append.mpr ⟨itX80, List.forall_mem_append.mpr ⟨itX8_isWord, List.forall_mem_append.mpr ⟨itX8_in, List.forall_mem_append.mpr ⟨itX8_distance, List.forall_mem_append.mpr ⟨itX8_lips, fun _ h => absurd h List.not_mem_nil⟩⟩⟩⟩⟩⟩⟩
set_option maxRecDepth 100000 in
theorem gdX8_like_o : ∀ w ∈ wsX8_like_o, goodWord w = true := gd_o (by decide +kernel)
set_option maxRecDepth 100000 in
theorem gdX8_like : ∀ w ∈ wsX8_like, goodWord w = true := List.forall_mem_cons.mpr ⟨by decide +kernel, List.forall_mem_append.mpr ⟨gdX8_like_o, List.forall_mem_append.mpr ⟨gdX80, List.forall_mem_append.mpr ⟨gdX8_isWord, List.forall_mem_append.mpr ⟨gdX8_in, List.forall_mem_append.mpr ⟨gdX8_distance, List.forall_mem_append.mpr ⟨gdX8_lips, fun _ h => absurd h List.not_mem_nil⟩⟩⟩⟩⟩⟩⟩
def wsX8_hoursOf_o : List Cond := (([Cond.selects RX8 yX8_guardOn yX8_guardOn] : List Cond) ++ (([Cond.initialized RX8] : List Cond) ++ (([Cond.fieldLink RX8 25 "WrongWordModel" "now" "[I"] : List Cond) ++ (([Cond.methodLink RX8 158 yX8_guardOn, Cond.instanceMethod yX8_guardOn] : List Cond) ++ ([] : List Cond)))))
def wsX8_hoursOf : List Cond := .code yX8_hoursOf cX8_hoursOf 4 (some .int) :: (wsX8_hoursOf_o ++ (wsX80 ++ (wsX8_guardOn ++ ([] : List Cond))))
set_option maxRecDepth 100000 in
theorem itX8_hoursOf_o : ∀ w ∈ wsX8_hoursOf_o, w ∈ lw_tbl := List.forall_mem_append.mpr ⟨fun w h => ch_0 w (mem_r (big := k2_sels lw_privs) _ [46] (by decide +kernel) w h), List.forall_mem_append.mpr ⟨fun w h => ch_1 w (mem_r (big := tables_1_1) _ [9] (by decide +kernel) w h), List.forall_mem_append.mpr ⟨fun w h => ch_4 w (mem_r (big := tables_1_4) _ [64] (by decide +kernel) w h), List.forall_mem_append.mpr ⟨fun w h => ch_5 w (mem_r (big := tables_1_5) _ [20, 22] (by decide +kernel) w h), fun _ h => absurd h List.not_mem_nil⟩⟩⟩⟩
set_option maxRecDepth 100000 in
theorem itX8_hoursOf : ∀ w ∈ wsX8_hoursOf, w ∈ lw_tbl := List.forall_mem_cons.mpr ⟨ch_5 _ (List.mem_of_getElem? (l := tables_1_5) (i := 82) (by decide +kernel)), List.forall_mem_append.mpr ⟨itX8_hoursOf_o, List.forall_mem_append.mpr ⟨itX80, List.forall_mem_append.mpr ⟨itX8_guardOn, fun _ h => absurd h List.not_mem_nil⟩⟩⟩⟩
set_option maxRecDepth 100000 in
theorem gdX8_hoursOf_o : ∀ w ∈ wsX8_hoursOf_o, goodWord w = true := gd_o (by decide +kernel)
set_option maxRecDepth 100000 in
theorem gdX8_hoursOf : ∀ w ∈ wsX8_hoursOf, goodWord w = true := List.forall_mem_cons.mpr ⟨by decide +kernel, List.forall_mem_append.mpr ⟨gdX8_hoursOf_o, List.forall_mem_append.mpr ⟨gdX80, List.forall_mem_append.mpr ⟨gdX8_guardOn, fun _ h => absurd h List.not_mem_nil⟩⟩⟩⟩
def wsX8_guard_o : List Cond := (([Cond.selects RX8 yX8_isGuard yX8_isGuard, Cond.selects RX8 yX8_hoursOf yX8_hoursOf, Cond.selects RX8 yX8_guardOn yX8_guardOn] : List Cond) ++ (([Cond.initialized RX8] : List Cond) ++ (([Cond.constant RX8 64 (-1000001), Cond.fieldLink RX8 25 "WrongWordModel" "now" "[I", Cond.methodLink RX8 56 yX8_in] : List Cond) ++ (([Cond.methodLink RX8 199 yX8_isGuard, Cond.instanceMethod yX8_isGuard, Cond.methodLink RX8 202 yX8_hoursOf, Cond.instanceMethod yX8_hoursOf, Cond.methodLink RX8 158 yX8_guardOn] : List Cond) ++ ([] : List Cond)))))
def wsX8_guard : List Cond := .code yX8_guard cX8_guard 3 (some .int) :: (wsX8_guard_o ++ (wsX80 ++ (wsX8_isGuard ++ (wsX8_hoursOf ++ ([] : List Cond)))))
set_option maxRecDepth 100000 in
theorem itX8_guard_o : ∀ w ∈ wsX8_guard_o, w ∈ lw_tbl := List.forall_mem_append.mpr ⟨fun w h => ch_0 w (mem_r (big := k2_sels lw_privs) _ [53, 54, 46] (by decide +kernel) w h), List.forall_mem_append.mpr ⟨fun w h => ch_1 w (mem_r (big := tables_1_1) _ [9] (by decide +kernel) w h), List.forall_mem_append.mpr ⟨fun w h => ch_4 w (mem_r (big := tables_1_4) _ [132, 64, 129] (by decide +kernel) w h), List.forall_mem_append.mpr ⟨fun w h => ch_5 w (mem_r (big := tables_1_5) _ [59, 61, 79, 81, 20] (by decide +kernel) w h), fun _ h => absurd h List.not_mem_nil⟩⟩⟩⟩
set_option maxRecDepth 100000 in
theorem itX8_guard : ∀ w ∈ wsX8_guard, w ∈ lw_tbl := List.forall_mem_cons.mpr ⟨ch_5 _ (List.mem_of_getElem? (l := tables_1_5) (i := 78) (by decide +kernel)), List.forall_mem_append.mpr ⟨itX8_guard_o, List.forall_mem_append.mpr ⟨itX80, List.forall_mem_append.mpr ⟨itX8_isGuard, List.forall_mem_append.mpr ⟨itX8_hoursOf, fun _ h => absurd h List.not_mem_nil⟩⟩⟩⟩⟩
set_option maxRecDepth 100000 in
theorem gdX8_guard_o : ∀ w ∈ wsX8_guard_o, goodWord w = true := gd_o (by decide +kernel)
set_option maxRecDepth 100000 in
theorem gdX8_guard : ∀ w ∈ wsX8_guard, goodWord w = true := List.forall_mem_cons.mpr ⟨by decide +kernel, List.forall_mem_append.mpr ⟨gdX8_guard_o, List.forall_mem_append.mpr ⟨gdX80, List.forall_mem_append.mpr ⟨gdX8_isGuard, List.forall_mem_append.mpr ⟨gdX8_hoursOf, fun _ h => absurd h List.not_mem_nil⟩⟩⟩⟩⟩
def wsX8_tried_o : List Cond := (([Cond.initialized RX8] : List Cond) ++ (([Cond.fieldLink RX8 25 "WrongWordModel" "now" "[I", Cond.constant RX8 64 (-1000001), Cond.constant RX8 50 (-1000000), Cond.methodLink RX8 56 yX8_in, Cond.static yX8_in] : List Cond) ++ ([] : List Cond)))
def wsX8_tried : List Cond := .code yX8_tried cX8_tried 4 (some .int) :: (wsX8_tried_o ++ (wsX80 ++ (wsX8_in ++ ([] : List Cond))))
set_option maxRecDepth 100000 in
theorem itX8_tried_o : ∀ w ∈ wsX8_tried_o, w ∈ lw_tbl := List.forall_mem_append.mpr ⟨fun w h => ch_1 w (mem_r (big := tables_1_1) _ [9] (by decide +kernel) w h), List.forall_mem_append.mpr ⟨fun w h => ch_4 w (mem_r (big := tables_1_4) _ [64, 132, 50, 129, 130] (by decide +kernel) w h), fun _ h => absurd h List.not_mem_nil⟩⟩
set_option maxRecDepth 100000 in
theorem itX8_tried : ∀ w ∈ wsX8_tried, w ∈ lw_tbl := List.forall_mem_cons.mpr ⟨ch_5 _ (List.mem_of_getElem? (l := tables_1_5) (i := 86) (by decide +kernel)), List.forall_mem_append.mpr ⟨itX8_tried_o, List.forall_mem_append.mpr ⟨itX80, List.forall_mem_append.mpr ⟨itX8_in, fun _ h => absurd h List.not_mem_nil⟩⟩⟩⟩
set_option maxRecDepth 100000 in
theorem gdX8_tried_o : ∀ w ∈ wsX8_tried_o, goodWord w = true := gd_o (by decide +kernel)
set_option maxRecDepth 100000 in
theorem gdX8_tried : ∀ w ∈ wsX8_tried, goodWord w = true := List.forall_mem_cons.mpr ⟨by decide +kernel, List.forall_mem_append.mpr ⟨gdX8_tried_o, List.forall_mem_append.mpr ⟨gdX80, List.forall_mem_append.mpr ⟨gdX8_in, fun _ h => absurd h List.not_mem_nil⟩⟩⟩⟩
def wsX8_secret_o : List Cond := (([Cond.selects RX8 yX8_isGate yX8_isGate] : List Cond) ++ (([Cond.initialized RX8] : List Cond) ++ (([Cond.constant RX8 183 (-1000002), Cond.fieldLink RX8 25 "WrongWordModel" "now" "[I", Cond.constant RX8 64 (-1000001), Cond.methodLink RX8 180 yX8_isGate, Cond.instanceMethod yX8_isGate, Cond.methodLink RX8 56 yX8_in] : List Cond) ++ (([Cond.methodLink RX8 205 yX8_isFar, Cond.static yX8_isFar, Cond.methodLink RX8 172 yX8_secretOf, Cond.static yX8_secretOf] : List Cond) ++ ([] : List Cond)))))
def wsX8_secret : List Cond := .code yX8_secret cX8_secret 2 (some .int) :: (wsX8_secret_o ++ (wsX80 ++ (wsX8_isGate ++ (wsX8_isFar ++ (wsX8_secretOf ++ ([] : List Cond))))))
set_option maxRecDepth 100000 in
theorem itX8_secret_o : ∀ w ∈ wsX8_secret_o, w ∈ lw_tbl := List.forall_mem_append.mpr ⟨fun w h => ch_0 w (mem_r (big := k2_sels lw_privs) _ [42] (by decide +kernel) w h), List.forall_mem_append.mpr ⟨fun w h => ch_1 w (mem_r (big := tables_1_1) _ [9] (by decide +kernel) w h), List.forall_mem_append.mpr ⟨fun w h => ch_4 w (mem_r (big := tables_1_4) _ [237, 64, 132, 233, 235, 129] (by decide +kernel) w h), List.forall_mem_append.mpr ⟨fun w h => ch_5 w (mem_r (big := tables_1_5) _ [91, 92, 6, 7] (by decide +kernel) w h), fun _ h => absurd h List.not_mem_nil⟩⟩⟩⟩
set_option maxRecDepth 100000 in
theorem itX8_secret : ∀ w ∈ wsX8_secret, w ∈ lw_tbl := List.forall_mem_cons.mpr ⟨ch_5 _ (List.mem_of_getElem? (l := tables_1_5) (i := 90) (by decide +kernel)), List.forall_mem_append.mpr ⟨itX8_secret_o, List.forall_mem_append.mpr ⟨itX80, List.forall_mem_append.mpr ⟨itX8_isGate, List.forall_mem_append.mpr ⟨itX8_isFar, List.forall_mem_append.mpr ⟨itX8_secretOf, fun _ h => absurd h List.not_mem_nil⟩⟩⟩⟩⟩⟩
set_option maxRecDepth 100000 in
theorem gdX8_secret_o : ∀ w ∈ wsX8_secret_o, goodWord w = true := gd_o (by decide +kernel)
set_option maxRecDepth 100000 in
theorem gdX8_secret : ∀ w ∈ wsX8_secret, goodWord w = true := List.forall_mem_cons.mpr ⟨by decide +kernel, List.forall_mem_append.mpr ⟨gdX8_secret_o, List.forall_mem_append.mpr ⟨gdX80, List.forall_mem_append.mpr ⟨gdX8_isGate, List.forall_mem_append.mpr ⟨gdX8_isFar, List.forall_mem_append.mpr ⟨gdX8_secretOf, fun _ h => absurd h List.not_mem_nil⟩⟩⟩⟩⟩⟩
def wsX8_taken_o : List Cond := (([Cond.selects RX8 yX8_isWord yX8_isWord, Cond.selects RX8 yX8_isTakenNow yX8_isTakenNow, Cond.selects RX8 yX8_isTaken yX8_isTaken, Cond.selects RX8 yX8_guardOn yX8_guardOn, Cond.selects RX8 yX8_kindIn yX8_kindIn, Cond.selects RX8 yX8_takesBy yX8_takesBy, Cond.selects RX8 yX8_distance yX8_distance, Cond.selects RX8 yX8_lips yX8_lips] : List Cond) ++ (([Cond.initialized RX8] : List Cond) ++ (([Cond.constant RX8 64 (-1000001), Cond.fieldLink RX8 25 "WrongWordModel" "now" "[I", Cond.methodLink RX8 56 yX8_in] : List Cond) ++ (([Cond.methodLink RX8 190 yX8_isWord, Cond.instanceMethod yX8_isWord, Cond.methodLink RX8 193 yX8_isHour, Cond.static yX8_isHour, Cond.methodLink RX8 205 yX8_isFar, Cond.static yX8_isFar, Cond.methodLink RX8 196 yX8_isTakenNow, Cond.instanceMethod yX8_isTakenNow, Cond.methodLink RX8 172 yX8_secretOf, Cond.methodLink RX8 176 yX8_isTaken, Cond.methodLink RX8 158 yX8_guardOn, Cond.methodLink RX8 161 yX8_has, Cond.methodLink RX8 165 yX8_kindIn, Cond.methodLink RX8 168 yX8_takesBy, Cond.methodLink RX8 152 yX8_distance, Cond.methodLink RX8 155 yX8_lips] : List Cond) ++ ([] : List Cond)))))
def wsX8_taken : List Cond := .code yX8_taken cX8_taken 4 (some .int) :: (wsX8_taken_o ++ (wsX80 ++ (wsX8_isWord ++ (wsX8_isHour ++ (wsX8_isFar ++ (wsX8_isTakenNow ++ ([] : List Cond)))))))
set_option maxRecDepth 100000 in
theorem itX8_taken_o : ∀ w ∈ wsX8_taken_o, w ∈ lw_tbl := List.forall_mem_append.mpr ⟨fun w h => ch_0 w (mem_r (big := k2_sels lw_privs) _ [45, 47, 48, 46, 49, 50, 51, 52] (by decide +kernel) w h), List.forall_mem_append.mpr ⟨fun w h => ch_1 w (mem_r (big := tables_1_1) _ [9] (by decide +kernel) w h), List.forall_mem_append.mpr ⟨fun w h => ch_4 w (mem_r (big := tables_1_4) _ [132, 64, 129] (by decide +kernel) w h), List.forall_mem_append.mpr ⟨fun w h => ch_5 w (mem_r (big := tables_1_5) _ [13, 15, 17, 18, 91, 92, 24, 26, 6, 28, 20, 32, 35, 39, 43, 47] (by decide +kernel) w h), fun _ h => absurd h List.not_mem_nil⟩⟩⟩⟩
set_option maxRecDepth 100000 in
theorem itX8_taken : ∀ w ∈ wsX8_taken, w ∈ lw_tbl := List.forall_mem_cons.mpr ⟨ch_5 _ (List.mem_of_getElem? (l := tables_1_5) (i := 97) (by decide +kernel)), List.forall_mem_append.mpr ⟨itX8_taken_o, List.forall_mem_append.mpr ⟨itX80, List.forall_mem_append.mpr ⟨itX8_isWord, List.forall_mem_append.mpr ⟨itX8_isHour, List.forall_mem_append.mpr ⟨itX8_isFar, List.forall_mem_append.mpr ⟨itX8_isTakenNow, fun _ h => absurd h List.not_mem_nil⟩⟩⟩⟩⟩⟩⟩
set_option maxRecDepth 100000 in
theorem gdX8_taken_o : ∀ w ∈ wsX8_taken_o, goodWord w = true := gd_o (by decide +kernel)
set_option maxRecDepth 100000 in
theorem gdX8_taken : ∀ w ∈ wsX8_taken, goodWord w = true := List.forall_mem_cons.mpr ⟨by decide +kernel, List.forall_mem_append.mpr ⟨gdX8_taken_o, List.forall_mem_append.mpr ⟨gdX80, List.forall_mem_append.mpr ⟨gdX8_isWord, List.forall_mem_append.mpr ⟨gdX8_isHour, List.forall_mem_append.mpr ⟨gdX8_isFar, List.forall_mem_append.mpr ⟨gdX8_isTakenNow, fun _ h => absurd h List.not_mem_nil⟩⟩⟩⟩⟩⟩⟩
def wsX8_safe_o : List Cond := (([Cond.selects RX8 yX8_isGate yX8_isGate, Cond.selects RX8 yX8_isTakenNow yX8_isTakenNow, Cond.selects RX8 yX8_isTaken yX8_isTaken, Cond.selects RX8 yX8_guardOn yX8_guardOn, Cond.selects RX8 yX8_kindIn yX8_kindIn, Cond.selects RX8 yX8_takesBy yX8_takesBy, Cond.selects RX8 yX8_distance yX8_distance, Cond.selects RX8 yX8_lips yX8_lips] : List Cond) ++ (([Cond.initialized RX8] : List Cond) ++ (([Cond.constant RX8 183 (-1000002), Cond.constant RX8 64 (-1000001), Cond.fieldLink RX8 25 "WrongWordModel" "now" "[I", Cond.methodLink RX8 180 yX8_isGate, Cond.instanceMethod yX8_isGate, Cond.methodLink RX8 56 yX8_in] : List Cond) ++ (([Cond.methodLink RX8 193 yX8_isHour, Cond.static yX8_isHour, Cond.methodLink RX8 205 yX8_isFar, Cond.static yX8_isFar, Cond.methodLink RX8 196 yX8_isTakenNow, Cond.instanceMethod yX8_isTakenNow, Cond.methodLink RX8 172 yX8_secretOf, Cond.methodLink RX8 176 yX8_isTaken, Cond.methodLink RX8 158 yX8_guardOn, Cond.methodLink RX8 161 yX8_has, Cond.methodLink RX8 165 yX8_kindIn, Cond.methodLink RX8 168 yX8_takesBy, Cond.methodLink RX8 152 yX8_distance, Cond.methodLink RX8 155 yX8_lips] : List Cond) ++ ([] : List Cond)))))
def wsX8_safe : List Cond := .code yX8_safe cX8_safe 5 (some .int) :: (wsX8_safe_o ++ (wsX80 ++ (wsX8_isGate ++ (wsX8_isHour ++ (wsX8_isFar ++ (wsX8_isTakenNow ++ ([] : List Cond)))))))
set_option maxRecDepth 100000 in
theorem itX8_safe_o : ∀ w ∈ wsX8_safe_o, w ∈ lw_tbl := List.forall_mem_append.mpr ⟨fun w h => ch_0 w (mem_r (big := k2_sels lw_privs) _ [42, 47, 48, 46, 49, 50, 51, 52] (by decide +kernel) w h), List.forall_mem_append.mpr ⟨fun w h => ch_1 w (mem_r (big := tables_1_1) _ [9] (by decide +kernel) w h), List.forall_mem_append.mpr ⟨fun w h => ch_4 w (mem_r (big := tables_1_4) _ [237, 132, 64, 233, 235, 129] (by decide +kernel) w h), List.forall_mem_append.mpr ⟨fun w h => ch_5 w (mem_r (big := tables_1_5) _ [17, 18, 91, 92, 24, 26, 6, 28, 20, 32, 35, 39, 43, 47] (by decide +kernel) w h), fun _ h => absurd h List.not_mem_nil⟩⟩⟩⟩
set_option maxRecDepth 100000 in
theorem itX8_safe : ∀ w ∈ wsX8_safe, w ∈ lw_tbl := List.forall_mem_cons.mpr ⟨ch_5 _ (List.mem_of_getElem? (l := tables_1_5) (i := 101) (by decide +kernel)), List.forall_mem_append.mpr ⟨itX8_safe_o, List.forall_mem_append.mpr ⟨itX80, List.forall_mem_append.mpr ⟨itX8_isGate, List.forall_mem_append.mpr ⟨itX8_isHour, List.forall_mem_append.mpr ⟨itX8_isFar, List.forall_mem_append.mpr ⟨itX8_isTakenNow, fun _ h => absurd h List.not_mem_nil⟩⟩⟩⟩⟩⟩⟩
set_option maxRecDepth 100000 in
theorem gdX8_safe_o : ∀ w ∈ wsX8_safe_o, goodWord w = true := gd_o (by decide +kernel)
set_option maxRecDepth 100000 in
theorem gdX8_safe : ∀ w ∈ wsX8_safe, goodWord w = true := List.forall_mem_cons.mpr ⟨by decide +kernel, List.forall_mem_append.mpr ⟨gdX8_safe_o, List.forall_mem_append.mpr ⟨gdX80, List.forall_mem_append.mpr ⟨gdX8_isGate, List.forall_mem_append.mpr ⟨gdX8_isHour, List.forall_mem_append.mpr ⟨gdX8_isFar, List.forall_mem_append.mpr ⟨gdX8_isTakenNow, fun _ h => absurd h List.not_mem_nil⟩⟩⟩⟩⟩⟩⟩
def wsX8_areIn_o : List Cond := (([Cond.selects RX8 yX8_isTaken yX8_isTaken, Cond.selects RX8 yX8_guardOn yX8_guardOn, Cond.selects RX8 yX8_kindIn yX8_kindIn, Cond.selects RX8 yX8_takesBy yX8_takesBy, Cond.selects RX8 yX8_distance yX8_distance, Cond.selects RX8 yX8_lips yX8_lips] : List Cond) ++ (([Cond.initialized RX8] : List Cond) ++ (([Cond.fieldLink RX8 25 "WrongWordModel" "now" "[I"] : List Cond) ++ (([Cond.methodLink RX8 161 yX8_has, Cond.static yX8_has, Cond.methodLink RX8 172 yX8_secretOf, Cond.static yX8_secretOf, Cond.methodLink RX8 176 yX8_isTaken, Cond.instanceMethod yX8_isTaken, Cond.methodLink RX8 158 yX8_guardOn, Cond.methodLink RX8 165 yX8_kindIn, Cond.methodLink RX8 168 yX8_takesBy, Cond.methodLink RX8 152 yX8_distance, Cond.methodLink RX8 155 yX8_lips] : List Cond) ++ ([] : List Cond)))))
def wsX8_areIn : List Cond := .code yX8_areIn cX8_areIn 8 (some .boolean) :: (wsX8_areIn_o ++ (wsX80 ++ (wsX8_has ++ (wsX8_secretOf ++ (wsX8_isTaken ++ ([] : List Cond))))))
set_option maxRecDepth 100000 in
theorem itX8_areIn_o : ∀ w ∈ wsX8_areIn_o, w ∈ lw_tbl := List.forall_mem_append.mpr ⟨fun w h => ch_0 w (mem_r (big := k2_sels lw_privs) _ [48, 46, 49, 50, 51, 52] (by decide +kernel) w h), List.forall_mem_append.mpr ⟨fun w h => ch_1 w (mem_r (big := tables_1_1) _ [9] (by decide +kernel) w h), List.forall_mem_append.mpr ⟨fun w h => ch_4 w (mem_r (big := tables_1_4) _ [64] (by decide +kernel) w h), List.forall_mem_append.mpr ⟨fun w h => ch_5 w (mem_r (big := tables_1_5) _ [32, 33, 6, 7, 28, 30, 20, 35, 39, 43, 47] (by decide +kernel) w h), fun _ h => absurd h List.not_mem_nil⟩⟩⟩⟩
set_option maxRecDepth 100000 in
theorem itX8_areIn : ∀ w ∈ wsX8_areIn, w ∈ lw_tbl := List.forall_mem_cons.mpr ⟨ch_5 _ (List.mem_of_getElem? (l := tables_1_5) (i := 113) (by decide +kernel)), List.forall_mem_append.mpr ⟨itX8_areIn_o, List.forall_mem_append.mpr ⟨itX80, List.forall_mem_append.mpr ⟨itX8_has, List.forall_mem_append.mpr ⟨itX8_secretOf, List.forall_mem_append.mpr ⟨itX8_isTaken, fun _ h => absurd h List.not_mem_nil⟩⟩⟩⟩⟩⟩
set_option maxRecDepth 100000 in
theorem gdX8_areIn_o : ∀ w ∈ wsX8_areIn_o, goodWord w = true := gd_o (by decide +kernel)
set_option maxRecDepth 100000 in
theorem gdX8_areIn : ∀ w ∈ wsX8_areIn, goodWord w = true := List.forall_mem_cons.mpr ⟨by decide +kernel, List.forall_mem_append.mpr ⟨gdX8_areIn_o, List.forall_mem_append.mpr ⟨gdX80, List.forall_mem_append.mpr ⟨gdX8_has, List.forall_mem_append.mpr ⟨gdX8_secretOf, List.forall_mem_append.mpr ⟨gdX8_isTaken, fun _ h => absurd h List.not_mem_nil⟩⟩⟩⟩⟩⟩
def wsX8_open_o : List Cond := (([Cond.selects RX8 yX8_isGate yX8_isGate, Cond.selects RX8 yX8_areWords yX8_areWords, Cond.selects RX8 yX8_areIn yX8_areIn, Cond.selects RX8 yX8_isTaken yX8_isTaken, Cond.selects RX8 yX8_guardOn yX8_guardOn, Cond.selects RX8 yX8_kindIn yX8_kindIn, Cond.selects RX8 yX8_takesBy yX8_takesBy, Cond.selects RX8 yX8_distance yX8_distance, Cond.selects RX8 yX8_lips yX8_lips] : List Cond) ++ (([Cond.initialized RX8] : List Cond) ++ (([Cond.constant RX8 183 (-1000002), Cond.constant RX8 64 (-1000001), Cond.fieldLink RX8 25 "WrongWordModel" "now" "[I", Cond.methodLink RX8 180 yX8_isGate, Cond.instanceMethod yX8_isGate, Cond.methodLink RX8 56 yX8_in] : List Cond) ++ (([Cond.methodLink RX8 208 yX8_areWords, Cond.instanceMethod yX8_areWords, Cond.methodLink RX8 205 yX8_isFar, Cond.static yX8_isFar, Cond.methodLink RX8 211 yX8_areIn, Cond.instanceMethod yX8_areIn, Cond.methodLink RX8 161 yX8_has, Cond.methodLink RX8 172 yX8_secretOf, Cond.methodLink RX8 176 yX8_isTaken, Cond.methodLink RX8 158 yX8_guardOn, Cond.methodLink RX8 165 yX8_kindIn, Cond.methodLink RX8 168 yX8_takesBy, Cond.methodLink RX8 152 yX8_distance, Cond.methodLink RX8 155 yX8_lips] : List Cond) ++ ([] : List Cond)))))
def wsX8_open : List Cond := .code yX8_open cX8_open 5 (some .int) :: (wsX8_open_o ++ (wsX80 ++ (wsX8_isGate ++ (wsX8_areWords ++ (wsX8_isFar ++ (wsX8_areIn ++ ([] : List Cond)))))))
set_option maxRecDepth 100000 in
theorem itX8_open_o : ∀ w ∈ wsX8_open_o, w ∈ lw_tbl := List.forall_mem_append.mpr ⟨fun w h => ch_0 w (mem_r (big := k2_sels lw_privs) _ [42, 55, 56, 48, 46, 49, 50, 51, 52] (by decide +kernel) w h), List.forall_mem_append.mpr ⟨fun w h => ch_1 w (mem_r (big := tables_1_1) _ [9] (by decide +kernel) w h), List.forall_mem_append.mpr ⟨fun w h => ch_4 w (mem_r (big := tables_1_4) _ [237, 132, 64, 233, 235, 129] (by decide +kernel) w h), List.forall_mem_append.mpr ⟨fun w h => ch_5 w (mem_r (big := tables_1_5) _ [106, 108, 91, 92, 110, 112, 32, 6, 28, 20, 35, 39, 43, 47] (by decide +kernel) w h), fun _ h => absurd h List.not_mem_nil⟩⟩⟩⟩
set_option maxRecDepth 100000 in
theorem itX8_open : ∀ w ∈ wsX8_open, w ∈ lw_tbl := List.forall_mem_cons.mpr ⟨ch_5 _ (List.mem_of_getElem? (l := tables_1_5) (i := 105) (by decide +kernel)), List.forall_mem_append.mpr ⟨itX8_open_o, List.forall_mem_append.mpr ⟨itX80, List.forall_mem_append.mpr ⟨itX8_isGate, List.forall_mem_append.mpr ⟨itX8_areWords, List.forall_mem_append.mpr ⟨itX8_isFar, List.forall_mem_append.mpr ⟨itX8_areIn, fun _ h => absurd h List.not_mem_nil⟩⟩⟩⟩⟩⟩⟩
set_option maxRecDepth 100000 in
theorem gdX8_open_o : ∀ w ∈ wsX8_open_o, goodWord w = true := gd_o (by decide +kernel)
set_option maxRecDepth 100000 in
theorem gdX8_open : ∀ w ∈ wsX8_open, goodWord w = true := List.forall_mem_cons.mpr ⟨by decide +kernel, List.forall_mem_append.mpr ⟨gdX8_open_o, List.forall_mem_append.mpr ⟨gdX80, List.forall_mem_append.mpr ⟨gdX8_isGate, List.forall_mem_append.mpr ⟨gdX8_areWords, List.forall_mem_append.mpr ⟨gdX8_isFar, List.forall_mem_append.mpr ⟨gdX8_areIn, fun _ h => absurd h List.not_mem_nil⟩⟩⟩⟩⟩⟩⟩
def wsX8_next_o : List Cond := (([Cond.selects RX8 yX8_isWord yX8_isWord] : List Cond) ++ (([Cond.initialized RX8] : List Cond) ++ (([Cond.constant RX8 64 (-1000001), Cond.fieldLink RX8 25 "WrongWordModel" "now" "[I", Cond.constant RX8 50 (-1000000), Cond.methodLink RX8 56 yX8_in] : List Cond) ++ (([Cond.methodLink RX8 190 yX8_isWord, Cond.instanceMethod yX8_isWord, Cond.methodLink RX8 172 yX8_secretOf, Cond.static yX8_secretOf] : List Cond) ++ ([] : List Cond)))))
def wsX8_next : List Cond := .code yX8_next cX8_next 3 (some .int) :: (wsX8_next_o ++ (wsX80 ++ (wsX8_isWord ++ (wsX8_secretOf ++ ([] : List Cond)))))
set_option maxRecDepth 100000 in
theorem itX8_next_o : ∀ w ∈ wsX8_next_o, w ∈ lw_tbl := List.forall_mem_append.mpr ⟨fun w h => ch_0 w (mem_r (big := k2_sels lw_privs) _ [45] (by decide +kernel) w h), List.forall_mem_append.mpr ⟨fun w h => ch_1 w (mem_r (big := tables_1_1) _ [9] (by decide +kernel) w h), List.forall_mem_append.mpr ⟨fun w h => ch_4 w (mem_r (big := tables_1_4) _ [132, 64, 50, 129] (by decide +kernel) w h), List.forall_mem_append.mpr ⟨fun w h => ch_5 w (mem_r (big := tables_1_5) _ [13, 15, 6, 7] (by decide +kernel) w h), fun _ h => absurd h List.not_mem_nil⟩⟩⟩⟩
set_option maxRecDepth 100000 in
theorem itX8_next : ∀ w ∈ wsX8_next, w ∈ lw_tbl := List.forall_mem_cons.mpr ⟨ch_5 _ (List.mem_of_getElem? (l := tables_1_5) (i := 117) (by decide +kernel)), List.forall_mem_append.mpr ⟨itX8_next_o, List.forall_mem_append.mpr ⟨itX80, List.forall_mem_append.mpr ⟨itX8_isWord, List.forall_mem_append.mpr ⟨itX8_secretOf, fun _ h => absurd h List.not_mem_nil⟩⟩⟩⟩⟩
set_option maxRecDepth 100000 in
theorem gdX8_next_o : ∀ w ∈ wsX8_next_o, goodWord w = true := gd_o (by decide +kernel)
set_option maxRecDepth 100000 in
theorem gdX8_next : ∀ w ∈ wsX8_next, goodWord w = true := List.forall_mem_cons.mpr ⟨by decide +kernel, List.forall_mem_append.mpr ⟨gdX8_next_o, List.forall_mem_append.mpr ⟨gdX80, List.forall_mem_append.mpr ⟨gdX8_isWord, List.forall_mem_append.mpr ⟨gdX8_secretOf, fun _ h => absurd h List.not_mem_nil⟩⟩⟩⟩⟩
def wsX8_agreeing_o : List Cond := (([Cond.selects RX8 yX8_kindIn yX8_kindIn, Cond.selects RX8 yX8_takesBy yX8_takesBy, Cond.selects RX8 yX8_distance yX8_distance, Cond.selects RX8 yX8_lips yX8_lips] : List Cond) ++ (([Cond.initialized RX8] : List Cond) ++ (([Cond.fieldLink RX8 25 "WrongWordModel" "now" "[I"] : List Cond) ++ (([Cond.methodLink RX8 165 yX8_kindIn, Cond.instanceMethod yX8_kindIn, Cond.methodLink RX8 168 yX8_takesBy, Cond.instanceMethod yX8_takesBy, Cond.methodLink RX8 152 yX8_distance, Cond.methodLink RX8 155 yX8_lips] : List Cond) ++ ([] : List Cond)))))
def wsX8_agreeing : List Cond := .code yX8_agreeing cX8_agreeing 6 (some .int) :: (wsX8_agreeing_o ++ (wsX80 ++ (wsX8_kindIn ++ (wsX8_takesBy ++ ([] : List Cond)))))
set_option maxRecDepth 100000 in
theorem itX8_agreeing_o : ∀ w ∈ wsX8_agreeing_o, w ∈ lw_tbl := List.forall_mem_append.mpr ⟨fun w h => ch_0 w (mem_r (big := k2_sels lw_privs) _ [49, 50, 51, 52] (by decide +kernel) w h), List.forall_mem_append.mpr ⟨fun w h => ch_1 w (mem_r (big := tables_1_1) _ [9] (by decide +kernel) w h), List.forall_mem_append.mpr ⟨fun w h => ch_4 w (mem_r (big := tables_1_4) _ [64] (by decide +kernel) w h), List.forall_mem_append.mpr ⟨fun w h => ch_5 w (mem_r (big := tables_1_5) _ [35, 37, 39, 41, 43, 47] (by decide +kernel) w h), fun _ h => absurd h List.not_mem_nil⟩⟩⟩⟩
set_option maxRecDepth 100000 in
theorem itX8_agreeing : ∀ w ∈ wsX8_agreeing, w ∈ lw_tbl := List.forall_mem_cons.mpr ⟨ch_5 _ (List.mem_of_getElem? (l := tables_1_5) (i := 125) (by decide +kernel)), List.forall_mem_append.mpr ⟨itX8_agreeing_o, List.forall_mem_append.mpr ⟨itX80, List.forall_mem_append.mpr ⟨itX8_kindIn, List.forall_mem_append.mpr ⟨itX8_takesBy, fun _ h => absurd h List.not_mem_nil⟩⟩⟩⟩⟩
set_option maxRecDepth 100000 in
theorem gdX8_agreeing_o : ∀ w ∈ wsX8_agreeing_o, goodWord w = true := gd_o (by decide +kernel)
set_option maxRecDepth 100000 in
theorem gdX8_agreeing : ∀ w ∈ wsX8_agreeing, goodWord w = true := List.forall_mem_cons.mpr ⟨by decide +kernel, List.forall_mem_append.mpr ⟨gdX8_agreeing_o, List.forall_mem_append.mpr ⟨gdX80, List.forall_mem_append.mpr ⟨gdX8_kindIn, List.forall_mem_append.mpr ⟨gdX8_takesBy, fun _ h => absurd h List.not_mem_nil⟩⟩⟩⟩⟩
def wsX8_agree_o : List Cond := (([Cond.selects RX8 yX8_isGate yX8_isGate, Cond.selects RX8 yX8_agreeing yX8_agreeing, Cond.selects RX8 yX8_kindIn yX8_kindIn, Cond.selects RX8 yX8_takesBy yX8_takesBy, Cond.selects RX8 yX8_distance yX8_distance, Cond.selects RX8 yX8_lips yX8_lips] : List Cond) ++ (([Cond.initialized RX8] : List Cond) ++ (([Cond.constant RX8 183 (-1000002), Cond.methodLink RX8 180 yX8_isGate, Cond.instanceMethod yX8_isGate, Cond.fieldLink RX8 25 "WrongWordModel" "now" "[I"] : List Cond) ++ (([Cond.methodLink RX8 214 yX8_agreeing, Cond.instanceMethod yX8_agreeing, Cond.methodLink RX8 165 yX8_kindIn, Cond.methodLink RX8 168 yX8_takesBy, Cond.methodLink RX8 152 yX8_distance, Cond.methodLink RX8 155 yX8_lips] : List Cond) ++ ([] : List Cond)))))
def wsX8_agree : List Cond := .code yX8_agree cX8_agree 1 (some .int) :: (wsX8_agree_o ++ (wsX80 ++ (wsX8_isGate ++ (wsX8_agreeing ++ ([] : List Cond)))))
set_option maxRecDepth 100000 in
theorem itX8_agree_o : ∀ w ∈ wsX8_agree_o, w ∈ lw_tbl := List.forall_mem_append.mpr ⟨fun w h => ch_0 w (mem_r (big := k2_sels lw_privs) _ [42, 57, 49, 50, 51, 52] (by decide +kernel) w h), List.forall_mem_append.mpr ⟨fun w h => ch_1 w (mem_r (big := tables_1_1) _ [9] (by decide +kernel) w h), List.forall_mem_append.mpr ⟨fun w h => ch_4 w (mem_r (big := tables_1_4) _ [237, 233, 235, 64] (by decide +kernel) w h), List.forall_mem_append.mpr ⟨fun w h => ch_5 w (mem_r (big := tables_1_5) _ [122, 124, 35, 39, 43, 47] (by decide +kernel) w h), fun _ h => absurd h List.not_mem_nil⟩⟩⟩⟩
set_option maxRecDepth 100000 in
theorem itX8_agree : ∀ w ∈ wsX8_agree, w ∈ lw_tbl := List.forall_mem_cons.mpr ⟨ch_5 _ (List.mem_of_getElem? (l := tables_1_5) (i := 121) (by decide +kernel)), List.forall_mem_append.mpr ⟨itX8_agree_o, List.forall_mem_append.mpr ⟨itX80, List.forall_mem_append.mpr ⟨itX8_isGate, List.forall_mem_append.mpr ⟨itX8_agreeing, fun _ h => absurd h List.not_mem_nil⟩⟩⟩⟩⟩
set_option maxRecDepth 100000 in
theorem gdX8_agree_o : ∀ w ∈ wsX8_agree_o, goodWord w = true := gd_o (by decide +kernel)
set_option maxRecDepth 100000 in
theorem gdX8_agree : ∀ w ∈ wsX8_agree, goodWord w = true := List.forall_mem_cons.mpr ⟨by decide +kernel, List.forall_mem_append.mpr ⟨gdX8_agree_o, List.forall_mem_append.mpr ⟨gdX80, List.forall_mem_append.mpr ⟨gdX8_isGate, List.forall_mem_append.mpr ⟨gdX8_agreeing, fun _ h => absurd h List.not_mem_nil⟩⟩⟩⟩⟩
def wsX8_takenOf_o : List Cond := (([Cond.selects RX8 yX8_isTaken yX8_isTaken, Cond.selects RX8 yX8_guardOn yX8_guardOn, Cond.selects RX8 yX8_kindIn yX8_kindIn, Cond.selects RX8 yX8_takesBy yX8_takesBy, Cond.selects RX8 yX8_distance yX8_distance, Cond.selects RX8 yX8_lips yX8_lips] : List Cond) ++ (([Cond.initialized RX8] : List Cond) ++ (([Cond.fieldLink RX8 25 "WrongWordModel" "now" "[I"] : List Cond) ++ (([Cond.methodLink RX8 161 yX8_has, Cond.static yX8_has, Cond.methodLink RX8 176 yX8_isTaken, Cond.instanceMethod yX8_isTaken, Cond.methodLink RX8 158 yX8_guardOn, Cond.methodLink RX8 165 yX8_kindIn, Cond.methodLink RX8 168 yX8_takesBy, Cond.methodLink RX8 152 yX8_distance, Cond.methodLink RX8 155 yX8_lips] : List Cond) ++ ([] : List Cond)))))
def wsX8_takenOf : List Cond := .code yX8_takenOf cX8_takenOf 6 (some .int) :: (wsX8_takenOf_o ++ (wsX80 ++ (wsX8_has ++ (wsX8_isTaken ++ ([] : List Cond)))))
set_option maxRecDepth 100000 in
theorem itX8_takenOf_o : ∀ w ∈ wsX8_takenOf_o, w ∈ lw_tbl := List.forall_mem_append.mpr ⟨fun w h => ch_0 w (mem_r (big := k2_sels lw_privs) _ [48, 46, 49, 50, 51, 52] (by decide +kernel) w h), List.forall_mem_append.mpr ⟨fun w h => ch_1 w (mem_r (big := tables_1_1) _ [9] (by decide +kernel) w h), List.forall_mem_append.mpr ⟨fun w h => ch_4 w (mem_r (big := tables_1_4) _ [64] (by decide +kernel) w h), List.forall_mem_append.mpr ⟨fun w h => ch_5 w (mem_r (big := tables_1_5) _ [32, 33, 28, 30, 20, 35, 39, 43, 47] (by decide +kernel) w h), fun _ h => absurd h List.not_mem_nil⟩⟩⟩⟩
set_option maxRecDepth 100000 in
theorem itX8_takenOf : ∀ w ∈ wsX8_takenOf, w ∈ lw_tbl := List.forall_mem_cons.mpr ⟨ch_5 _ (List.mem_of_getElem? (l := tables_1_5) (i := 136) (by decide +kernel)), List.forall_mem_append.mpr ⟨itX8_takenOf_o, List.forall_mem_append.mpr ⟨itX80, List.forall_mem_append.mpr ⟨itX8_has, List.forall_mem_append.mpr ⟨itX8_isTaken, fun _ h => absurd h List.not_mem_nil⟩⟩⟩⟩⟩
set_option maxRecDepth 100000 in
theorem gdX8_takenOf_o : ∀ w ∈ wsX8_takenOf_o, goodWord w = true := gd_o (by decide +kernel)
set_option maxRecDepth 100000 in
theorem gdX8_takenOf : ∀ w ∈ wsX8_takenOf, goodWord w = true := List.forall_mem_cons.mpr ⟨by decide +kernel, List.forall_mem_append.mpr ⟨gdX8_takenOf_o, List.forall_mem_append.mpr ⟨gdX80, List.forall_mem_append.mpr ⟨gdX8_has, List.forall_mem_append.mpr ⟨gdX8_isTaken, fun _ h => absurd h List.not_mem_nil⟩⟩⟩⟩⟩
def wsX8_man_o : List Cond := (([Cond.selects RX8 yX8_isGate yX8_isGate, Cond.selects RX8 yX8_agreeing yX8_agreeing, Cond.selects RX8 yX8_kindIn yX8_kindIn, Cond.selects RX8 yX8_takesBy yX8_takesBy, Cond.selects RX8 yX8_distance yX8_distance, Cond.selects RX8 yX8_lips yX8_lips, Cond.selects RX8 yX8_takenOf yX8_takenOf, Cond.selects RX8 yX8_isTaken yX8_isTaken, Cond.selects RX8 yX8_guardOn yX8_guardOn] : List Cond) ++ (([Cond.initialized RX8] : List Cond) ++ (([Cond.constant RX8 183 (-1000002), Cond.constant RX8 64 (-1000001), Cond.fieldLink RX8 25 "WrongWordModel" "now" "[I", Cond.methodLink RX8 180 yX8_isGate, Cond.instanceMethod yX8_isGate, Cond.methodLink RX8 56 yX8_in, Cond.static yX8_in] : List Cond) ++ (([Cond.methodLink RX8 214 yX8_agreeing, Cond.instanceMethod yX8_agreeing, Cond.methodLink RX8 165 yX8_kindIn, Cond.methodLink RX8 168 yX8_takesBy, Cond.methodLink RX8 152 yX8_distance, Cond.methodLink RX8 155 yX8_lips, Cond.methodLink RX8 217 yX8_ones, Cond.static yX8_ones, Cond.methodLink RX8 220 yX8_takenOf, Cond.instanceMethod yX8_takenOf, Cond.methodLink RX8 161 yX8_has, Cond.methodLink RX8 176 yX8_isTaken, Cond.methodLink RX8 158 yX8_guardOn] : List Cond) ++ ([] : List Cond)))))
def wsX8_man : List Cond := .code yX8_man cX8_man 11 (some .int) :: (wsX8_man_o ++ (wsX80 ++ (wsX8_isGate ++ (wsX8_in ++ (wsX8_agreeing ++ (wsX8_ones ++ (wsX8_takenOf ++ ([] : List Cond))))))))
set_option maxRecDepth 100000 in
theorem itX8_man_o : ∀ w ∈ wsX8_man_o, w ∈ lw_tbl := List.forall_mem_append.mpr ⟨fun w h => ch_0 w (mem_r (big := k2_sels lw_privs) _ [42, 57, 49, 50, 51, 52, 58, 48, 46] (by decide +kernel) w h), List.forall_mem_append.mpr ⟨fun w h => ch_1 w (mem_r (big := tables_1_1) _ [9] (by decide +kernel) w h), List.forall_mem_append.mpr ⟨fun w h => ch_4 w (mem_r (big := tables_1_4) _ [237, 132, 64, 233, 235, 129, 130] (by decide +kernel) w h), List.forall_mem_append.mpr ⟨fun w h => ch_5 w (mem_r (big := tables_1_5) _ [122, 124, 35, 39, 43, 47, 130, 131, 133, 135, 32, 28, 20] (by decide +kernel) w h), fun _ h => absurd h List.not_mem_nil⟩⟩⟩⟩
set_option maxRecDepth 100000 in
theorem itX8_man : ∀ w ∈ wsX8_man, w ∈ lw_tbl := List.forall_mem_cons.mpr ⟨ch_5 _ (List.mem_of_getElem? (l := tables_1_5) (i := 129) (by decide +kernel)), List.forall_mem_append.mpr ⟨itX8_man_o, List.forall_mem_append.mpr ⟨itX80, List.forall_mem_append.mpr ⟨itX8_isGate, List.forall_mem_append.mpr ⟨itX8_in, List.forall_mem_append.mpr ⟨itX8_agreeing, List.forall_mem_append.mpr ⟨itX8_ones, List.forall_mem_append.mpr ⟨itX8_takenOf, fun _ h => absurd h List.not_mem_nil⟩⟩⟩⟩⟩⟩⟩⟩
set_option maxRecDepth 100000 in
theorem gdX8_man_o : ∀ w ∈ wsX8_man_o, goodWord w = true := gd_o (by decide +kernel)
set_option maxRecDepth 100000 in
theorem gdX8_man : ∀ w ∈ wsX8_man, goodWord w = true := List.forall_mem_cons.mpr ⟨by decide +kernel, List.forall_mem_append.mpr ⟨gdX8_man_o, List.forall_mem_append.mpr ⟨gdX80, List.forall_mem_append.mpr ⟨gdX8_isGate, List.forall_mem_append.mpr ⟨gdX8_in, List.forall_mem_append.mpr ⟨gdX8_agreeing, List.forall_mem_append.mpr ⟨gdX8_ones, List.forall_mem_append.mpr ⟨gdX8_takenOf, fun _ h => absurd h List.not_mem_nil⟩⟩⟩⟩⟩⟩⟩⟩
def wsX8_menFor_o : List Cond := (([Cond.selects RX8 yX8_takenOf yX8_takenOf, Cond.selects RX8 yX8_isTaken yX8_isTaken, Cond.selects RX8 yX8_guardOn yX8_guardOn, Cond.selects RX8 yX8_kindIn yX8_kindIn, Cond.selects RX8 yX8_takesBy yX8_takesBy, Cond.selects RX8 yX8_distance yX8_distance, Cond.selects RX8 yX8_lips yX8_lips] : List Cond) ++ (([Cond.initialized RX8] : List Cond) ++ (([Cond.constant RX8 50 (-1000000), Cond.fieldLink RX8 25 "WrongWordModel" "now" "[I", Cond.fieldLink RX8 44 "WrongWordModel" "men" "[I"] : List Cond) ++ (([Cond.methodLink RX8 217 yX8_ones, Cond.static yX8_ones, Cond.methodLink RX8 220 yX8_takenOf, Cond.instanceMethod yX8_takenOf, Cond.methodLink RX8 161 yX8_has, Cond.methodLink RX8 176 yX8_isTaken, Cond.methodLink RX8 158 yX8_guardOn, Cond.methodLink RX8 165 yX8_kindIn, Cond.methodLink RX8 168 yX8_takesBy, Cond.methodLink RX8 152 yX8_distance, Cond.methodLink RX8 155 yX8_lips] : List Cond) ++ ([] : List Cond)))))
def wsX8_menFor : List Cond := .code yX8_menFor cX8_menFor 8 (some .int) :: (wsX8_menFor_o ++ (wsX80 ++ (wsX8_ones ++ (wsX8_takenOf ++ ([] : List Cond)))))
set_option maxRecDepth 100000 in
theorem itX8_menFor_o : ∀ w ∈ wsX8_menFor_o, w ∈ lw_tbl := List.forall_mem_append.mpr ⟨fun w h => ch_0 w (mem_r (big := k2_sels lw_privs) _ [58, 48, 46, 49, 50, 51, 52] (by decide +kernel) w h), List.forall_mem_append.mpr ⟨fun w h => ch_1 w (mem_r (big := tables_1_1) _ [9] (by decide +kernel) w h), List.forall_mem_append.mpr ⟨fun w h => ch_4 w (mem_r (big := tables_1_4) _ [50, 64, 71] (by decide +kernel) w h), List.forall_mem_append.mpr ⟨fun w h => ch_5 w (mem_r (big := tables_1_5) _ [130, 131, 133, 135, 32, 28, 20, 35, 39, 43, 47] (by decide +kernel) w h), fun _ h => absurd h List.not_mem_nil⟩⟩⟩⟩
set_option maxRecDepth 100000 in
theorem itX8_menFor : ∀ w ∈ wsX8_menFor, w ∈ lw_tbl := List.forall_mem_cons.mpr ⟨ch_5 _ (List.mem_of_getElem? (l := tables_1_5) (i := 144) (by decide +kernel)), List.forall_mem_append.mpr ⟨itX8_menFor_o, List.forall_mem_append.mpr ⟨itX80, List.forall_mem_append.mpr ⟨itX8_ones, List.forall_mem_append.mpr ⟨itX8_takenOf, fun _ h => absurd h List.not_mem_nil⟩⟩⟩⟩⟩
set_option maxRecDepth 100000 in
theorem gdX8_menFor_o : ∀ w ∈ wsX8_menFor_o, goodWord w = true := gd_o (by decide +kernel)
set_option maxRecDepth 100000 in
theorem gdX8_menFor : ∀ w ∈ wsX8_menFor, goodWord w = true := List.forall_mem_cons.mpr ⟨by decide +kernel, List.forall_mem_append.mpr ⟨gdX8_menFor_o, List.forall_mem_append.mpr ⟨gdX80, List.forall_mem_append.mpr ⟨gdX8_ones, List.forall_mem_append.mpr ⟨gdX8_takenOf, fun _ h => absurd h List.not_mem_nil⟩⟩⟩⟩⟩
def wsX8_fewest_o : List Cond := (([Cond.selects RX8 yX8_isGate yX8_isGate, Cond.selects RX8 yX8_agreeing yX8_agreeing, Cond.selects RX8 yX8_kindIn yX8_kindIn, Cond.selects RX8 yX8_takesBy yX8_takesBy, Cond.selects RX8 yX8_distance yX8_distance, Cond.selects RX8 yX8_lips yX8_lips, Cond.selects RX8 yX8_menFor yX8_menFor, Cond.selects RX8 yX8_takenOf yX8_takenOf, Cond.selects RX8 yX8_isTaken yX8_isTaken, Cond.selects RX8 yX8_guardOn yX8_guardOn] : List Cond) ++ (([Cond.initialized RX8] : List Cond) ++ (([Cond.constant RX8 183 (-1000002), Cond.fieldLink RX8 44 "WrongWordModel" "men" "[I", Cond.methodLink RX8 180 yX8_isGate, Cond.instanceMethod yX8_isGate, Cond.fieldLink RX8 25 "WrongWordModel" "now" "[I", Cond.constant RX8 50 (-1000000)] : List Cond) ++ (([Cond.methodLink RX8 214 yX8_agreeing, Cond.instanceMethod yX8_agreeing, Cond.methodLink RX8 165 yX8_kindIn, Cond.methodLink RX8 168 yX8_takesBy, Cond.methodLink RX8 152 yX8_distance, Cond.methodLink RX8 155 yX8_lips, Cond.methodLink RX8 224 yX8_menFor, Cond.instanceMethod yX8_menFor, Cond.methodLink RX8 217 yX8_ones, Cond.methodLink RX8 220 yX8_takenOf, Cond.methodLink RX8 161 yX8_has, Cond.methodLink RX8 176 yX8_isTaken, Cond.methodLink RX8 158 yX8_guardOn] : List Cond) ++ ([] : List Cond)))))
def wsX8_fewest : List Cond := .code yX8_fewest cX8_fewest 3 (some .int) :: (wsX8_fewest_o ++ (wsX80 ++ (wsX8_isGate ++ (wsX8_agreeing ++ (wsX8_menFor ++ ([] : List Cond))))))
set_option maxRecDepth 100000 in
theorem itX8_fewest_o : ∀ w ∈ wsX8_fewest_o, w ∈ lw_tbl := List.forall_mem_append.mpr ⟨fun w h => ch_0 w (mem_r (big := k2_sels lw_privs) _ [42, 57, 49, 50, 51, 52, 59, 58, 48, 46] (by decide +kernel) w h), List.forall_mem_append.mpr ⟨fun w h => ch_1 w (mem_r (big := tables_1_1) _ [9] (by decide +kernel) w h), List.forall_mem_append.mpr ⟨fun w h => ch_4 w (mem_r (big := tables_1_4) _ [237, 71, 233, 235, 64, 50] (by decide +kernel) w h), List.forall_mem_append.mpr ⟨fun w h => ch_5 w (mem_r (big := tables_1_5) _ [122, 124, 35, 39, 43, 47, 141, 143, 130, 133, 32, 28, 20] (by decide +kernel) w h), fun _ h => absurd h List.not_mem_nil⟩⟩⟩⟩
set_option maxRecDepth 100000 in
theorem itX8_fewest : ∀ w ∈ wsX8_fewest, w ∈ lw_tbl := List.forall_mem_cons.mpr ⟨ch_5 _ (List.mem_of_getElem? (l := tables_1_5) (i := 140) (by decide +kernel)), List.forall_mem_append.mpr ⟨itX8_fewest_o, List.forall_mem_append.mpr ⟨itX80, List.forall_mem_append.mpr ⟨itX8_isGate, List.forall_mem_append.mpr ⟨itX8_agreeing, List.forall_mem_append.mpr ⟨itX8_menFor, fun _ h => absurd h List.not_mem_nil⟩⟩⟩⟩⟩⟩
set_option maxRecDepth 100000 in
theorem gdX8_fewest_o : ∀ w ∈ wsX8_fewest_o, goodWord w = true := gd_o (by decide +kernel)
set_option maxRecDepth 100000 in
theorem gdX8_fewest : ∀ w ∈ wsX8_fewest, goodWord w = true := List.forall_mem_cons.mpr ⟨by decide +kernel, List.forall_mem_append.mpr ⟨gdX8_fewest_o, List.forall_mem_append.mpr ⟨gdX80, List.forall_mem_append.mpr ⟨gdX8_isGate, List.forall_mem_append.mpr ⟨gdX8_agreeing, List.forall_mem_append.mpr ⟨gdX8_menFor, fun _ h => absurd h List.not_mem_nil⟩⟩⟩⟩⟩⟩
def wsX8_march_o : List Cond := (([Cond.selects RX8 yX8_isGate yX8_isGate, Cond.selects RX8 yX8_isMissing yX8_isMissing, Cond.selects RX8 yX8_found yX8_found, Cond.selects RX8 yX8_isPart yX8_isPart, Cond.selects RX8 yX8_isWord yX8_isWord, Cond.selects RX8 yX8_isTakenNow yX8_isTakenNow, Cond.selects RX8 yX8_isTaken yX8_isTaken, Cond.selects RX8 yX8_guardOn yX8_guardOn, Cond.selects RX8 yX8_kindIn yX8_kindIn, Cond.selects RX8 yX8_takesBy yX8_takesBy, Cond.selects RX8 yX8_distance yX8_distance, Cond.selects RX8 yX8_lips yX8_lips, Cond.selects RX8 yX8_well yX8_well] : List Cond) ++ (([Cond.initialized RX8] : List Cond) ++ (([Cond.constant RX8 183 (-1000002), Cond.constant RX8 64 (-1000001), Cond.constant RX8 50 (-1000000), Cond.fieldLink RX8 16 "WrongWordModel" "items" "[I", Cond.methodLink RX8 180 yX8_isGate, Cond.instanceMethod yX8_isGate, Cond.fieldLink RX8 25 "WrongWordModel" "now" "[I", Cond.methodLink RX8 60 yX8_isRow, Cond.static yX8_isRow, Cond.methodLink RX8 56 yX8_in, Cond.static yX8_in, Cond.methodLink RX8 72 yX8_isMissing, Cond.instanceMethod yX8_isMissing, Cond.fieldLink RX8 7 "WrongWordModel" "lane" "[I", Cond.methodLink RX8 65 yX8_found, Cond.instanceMethod yX8_found, Cond.fieldLink RX8 51 "WrongWordModel" "status" "I", Cond.constant RX8 55 (-1000010), Cond.methodLink RX8 79 yX8_isPart, Cond.instanceMethod yX8_isPart, Cond.fieldLink RX8 13 "WrongWordModel" "many" "[I", Cond.methodLink RX8 69 yX8_well, Cond.instanceMethod yX8_well] : List Cond) ++ (([Cond.methodLink RX8 190 yX8_isWord, Cond.instanceMethod yX8_isWord, Cond.methodLink RX8 196 yX8_isTakenNow, Cond.instanceMethod yX8_isTakenNow, Cond.methodLink RX8 172 yX8_secretOf, Cond.methodLink RX8 176 yX8_isTaken, Cond.methodLink RX8 158 yX8_guardOn, Cond.methodLink RX8 161 yX8_has, Cond.methodLink RX8 165 yX8_kindIn, Cond.methodLink RX8 168 yX8_takesBy, Cond.methodLink RX8 152 yX8_distance, Cond.methodLink RX8 155 yX8_lips] : List Cond) ++ ([] : List Cond)))))
def wsX8_march : List Cond := .code yX8_march cX8_march 9 (some .int) :: (wsX8_march_o ++ (wsX80 ++ (wsX8_isGate ++ (wsX8_isRow ++ (wsX8_in ++ (wsX8_isMissing ++ (wsX8_found ++ (wsX8_isPart ++ (wsX8_isWord ++ (wsX8_isTakenNow ++ (wsX8_well ++ ([] : List Cond))))))))))))
set_option maxRecDepth 100000 in
theorem itX8_march_o : ∀ w ∈ wsX8_march_o, w ∈ lw_tbl := List.forall_mem_append.mpr ⟨fun w h => ch_0 w (mem_r (big := k2_sels lw_privs) _ [42, 29, 27, 30, 45, 47, 48, 46, 49, 50, 51, 52, 28] (by decide +kernel) w h), List.forall_mem_append.mpr ⟨fun w h => ch_1 w (mem_r (big := tables_1_1) _ [9] (by decide +kernel) w h), List.forall_mem_append.mpr ⟨fun w h => ch_4 w (mem_r (big := tables_1_4) _ [237, 132, 50, 53, 233, 235, 64, 126, 127, 129, 130, 146, 148, 51, 133, 135, 55, 137, 157, 159, 52, 138, 140] (by decide +kernel) w h), List.forall_mem_append.mpr ⟨fun w h => ch_5 w (mem_r (big := tables_1_5) _ [13, 15, 24, 26, 6, 28, 20, 32, 35, 39, 43, 47] (by decide +kernel) w h), fun _ h => absurd h List.not_mem_nil⟩⟩⟩⟩
set_option maxRecDepth 100000 in
theorem itX8_march : ∀ w ∈ wsX8_march, w ∈ lw_tbl := List.forall_mem_cons.mpr ⟨ch_5 _ (List.mem_of_getElem? (l := tables_1_5) (i := 148) (by decide +kernel)), List.forall_mem_append.mpr ⟨itX8_march_o, List.forall_mem_append.mpr ⟨itX80, List.forall_mem_append.mpr ⟨itX8_isGate, List.forall_mem_append.mpr ⟨itX8_isRow, List.forall_mem_append.mpr ⟨itX8_in, List.forall_mem_append.mpr ⟨itX8_isMissing, List.forall_mem_append.mpr ⟨itX8_found, List.forall_mem_append.mpr ⟨itX8_isPart, List.forall_mem_append.mpr ⟨itX8_isWord, List.forall_mem_append.mpr ⟨itX8_isTakenNow, List.forall_mem_append.mpr ⟨itX8_well, fun _ h => absurd h List.not_mem_nil⟩⟩⟩⟩⟩⟩⟩⟩⟩⟩⟩⟩
set_option maxRecDepth 100000 in
theorem gdX8_march_o : ∀ w ∈ wsX8_march_o, goodWord w = true := gd_o (by decide +kernel)
set_option maxRecDepth 100000 in
theorem gdX8_march : ∀ w ∈ wsX8_march, goodWord w = true := List.forall_mem_cons.mpr ⟨by decide +kernel, List.forall_mem_append.mpr ⟨gdX8_march_o, List.forall_mem_append.mpr ⟨gdX80, List.forall_mem_append.mpr ⟨gdX8_isGate, List.forall_mem_append.mpr ⟨gdX8_isRow, List.forall_mem_append.mpr ⟨gdX8_in, List.forall_mem_append.mpr ⟨gdX8_isMissing, List.forall_mem_append.mpr ⟨gdX8_found, List.forall_mem_append.mpr ⟨gdX8_isPart, List.forall_mem_append.mpr ⟨gdX8_isWord, List.forall_mem_append.mpr ⟨gdX8_isTakenNow, List.forall_mem_append.mpr ⟨gdX8_well, fun _ h => absurd h List.not_mem_nil⟩⟩⟩⟩⟩⟩⟩⟩⟩⟩⟩⟩
def wsX8_cheap_o : List Cond := (([Cond.selects RX8 yX8_isGate yX8_isGate, Cond.selects RX8 yX8_areWords yX8_areWords, Cond.selects RX8 yX8_areIn yX8_areIn, Cond.selects RX8 yX8_isTaken yX8_isTaken, Cond.selects RX8 yX8_guardOn yX8_guardOn, Cond.selects RX8 yX8_kindIn yX8_kindIn, Cond.selects RX8 yX8_takesBy yX8_takesBy, Cond.selects RX8 yX8_distance yX8_distance, Cond.selects RX8 yX8_lips yX8_lips] : List Cond) ++ (([Cond.initialized RX8] : List Cond) ++ (([Cond.constant RX8 183 (-1000002), Cond.constant RX8 64 (-1000001), Cond.constant RX8 50 (-1000000), Cond.fieldLink RX8 25 "WrongWordModel" "now" "[I", Cond.methodLink RX8 180 yX8_isGate, Cond.instanceMethod yX8_isGate, Cond.methodLink RX8 56 yX8_in, Cond.static yX8_in] : List Cond) ++ (([Cond.methodLink RX8 208 yX8_areWords, Cond.instanceMethod yX8_areWords, Cond.methodLink RX8 205 yX8_isFar, Cond.static yX8_isFar, Cond.methodLink RX8 161 yX8_has, Cond.static yX8_has, Cond.methodLink RX8 211 yX8_areIn, Cond.instanceMethod yX8_areIn, Cond.methodLink RX8 172 yX8_secretOf, Cond.methodLink RX8 176 yX8_isTaken, Cond.methodLink RX8 158 yX8_guardOn, Cond.methodLink RX8 165 yX8_kindIn, Cond.methodLink RX8 168 yX8_takesBy, Cond.methodLink RX8 152 yX8_distance, Cond.methodLink RX8 155 yX8_lips, Cond.methodLink RX8 217 yX8_ones, Cond.static yX8_ones] : List Cond) ++ ([] : List Cond)))))
def wsX8_cheap : List Cond := .code yX8_cheap cX8_cheap 10 (some .int) :: (wsX8_cheap_o ++ (wsX80 ++ (wsX8_isGate ++ (wsX8_areWords ++ (wsX8_isFar ++ (wsX8_in ++ (wsX8_has ++ (wsX8_areIn ++ (wsX8_ones ++ ([] : List Cond))))))))))
set_option maxRecDepth 100000 in
theorem itX8_cheap_o : ∀ w ∈ wsX8_cheap_o, w ∈ lw_tbl := List.forall_mem_append.mpr ⟨fun w h => ch_0 w (mem_r (big := k2_sels lw_privs) _ [42, 55, 56, 48, 46, 49, 50, 51, 52] (by decide +kernel) w h), List.forall_mem_append.mpr ⟨fun w h => ch_1 w (mem_r (big := tables_1_1) _ [9] (by decide +kernel) w h), List.forall_mem_append.mpr ⟨fun w h => ch_4 w (mem_r (big := tables_1_4) _ [237, 132, 50, 64, 233, 235, 129, 130] (by decide +kernel) w h), List.forall_mem_append.mpr ⟨fun w h => ch_5 w (mem_r (big := tables_1_5) _ [106, 108, 91, 92, 32, 33, 110, 112, 6, 28, 20, 35, 39, 43, 47, 130, 131] (by decide +kernel) w h), fun _ h => absurd h List.not_mem_nil⟩⟩⟩⟩
set_option maxRecDepth 100000 in
theorem itX8_cheap : ∀ w ∈ wsX8_cheap, w ∈ lw_tbl := List.forall_mem_cons.mpr ⟨ch_5 _ (List.mem_of_getElem? (l := tables_1_5) (i := 152) (by decide +kernel)), List.forall_mem_append.mpr ⟨itX8_cheap_o, List.forall_mem_append.mpr ⟨itX80, List.forall_mem_append.mpr ⟨itX8_isGate, List.forall_mem_append.mpr ⟨itX8_areWords, List.forall_mem_append.mpr ⟨itX8_isFar, List.forall_mem_append.mpr ⟨itX8_in, List.forall_mem_append.mpr ⟨itX8_has, List.forall_mem_append.mpr ⟨itX8_areIn, List.forall_mem_append.mpr ⟨itX8_ones, fun _ h => absurd h List.not_mem_nil⟩⟩⟩⟩⟩⟩⟩⟩⟩⟩
set_option maxRecDepth 100000 in
theorem gdX8_cheap_o : ∀ w ∈ wsX8_cheap_o, goodWord w = true := gd_o (by decide +kernel)
set_option maxRecDepth 100000 in
theorem gdX8_cheap : ∀ w ∈ wsX8_cheap, goodWord w = true := List.forall_mem_cons.mpr ⟨by decide +kernel, List.forall_mem_append.mpr ⟨gdX8_cheap_o, List.forall_mem_append.mpr ⟨gdX80, List.forall_mem_append.mpr ⟨gdX8_isGate, List.forall_mem_append.mpr ⟨gdX8_areWords, List.forall_mem_append.mpr ⟨gdX8_isFar, List.forall_mem_append.mpr ⟨gdX8_in, List.forall_mem_append.mpr ⟨gdX8_has, List.forall_mem_append.mpr ⟨gdX8_areIn, List.forall_mem_append.mpr ⟨gdX8_ones, fun _ h => absurd h List.not_mem_nil⟩⟩⟩⟩⟩⟩⟩⟩⟩⟩
def wsX8_near_o : List Cond := (([Cond.selects RX8 yX8_isWord yX8_isWord, Cond.selects RX8 yX8_distance yX8_distance] : List Cond) ++ (([Cond.initialized RX8] : List Cond) ++ (([Cond.constant RX8 64 (-1000001), Cond.constant RX8 50 (-1000000), Cond.fieldLink RX8 25 "WrongWordModel" "now" "[I", Cond.methodLink RX8 56 yX8_in, Cond.static yX8_in] : List Cond) ++ (([Cond.methodLink RX8 190 yX8_isWord, Cond.instanceMethod yX8_isWord, Cond.methodLink RX8 152 yX8_distance, Cond.instanceMethod yX8_distance] : List Cond) ++ ([] : List Cond)))))
def wsX8_near : List Cond := .code yX8_near cX8_near 5 (some .int) :: (wsX8_near_o ++ (wsX80 ++ (wsX8_isWord ++ (wsX8_in ++ (wsX8_distance ++ ([] : List Cond))))))
set_option maxRecDepth 100000 in
theorem itX8_near_o : ∀ w ∈ wsX8_near_o, w ∈ lw_tbl := List.forall_mem_append.mpr ⟨fun w h => ch_0 w (mem_r (big := k2_sels lw_privs) _ [45, 51] (by decide +kernel) w h), List.forall_mem_append.mpr ⟨fun w h => ch_1 w (mem_r (big := tables_1_1) _ [9] (by decide +kernel) w h), List.forall_mem_append.mpr ⟨fun w h => ch_4 w (mem_r (big := tables_1_4) _ [132, 50, 64, 129, 130] (by decide +kernel) w h), List.forall_mem_append.mpr ⟨fun w h => ch_5 w (mem_r (big := tables_1_5) _ [13, 15, 43, 45] (by decide +kernel) w h), fun _ h => absurd h List.not_mem_nil⟩⟩⟩⟩
set_option maxRecDepth 100000 in
theorem itX8_near : ∀ w ∈ wsX8_near, w ∈ lw_tbl := List.forall_mem_cons.mpr ⟨ch_5 _ (List.mem_of_getElem? (l := tables_1_5) (i := 156) (by decide +kernel)), List.forall_mem_append.mpr ⟨itX8_near_o, List.forall_mem_append.mpr ⟨itX80, List.forall_mem_append.mpr ⟨itX8_isWord, List.forall_mem_append.mpr ⟨itX8_in, List.forall_mem_append.mpr ⟨itX8_distance, fun _ h => absurd h List.not_mem_nil⟩⟩⟩⟩⟩⟩
set_option maxRecDepth 100000 in
theorem gdX8_near_o : ∀ w ∈ wsX8_near_o, goodWord w = true := gd_o (by decide +kernel)
set_option maxRecDepth 100000 in
theorem gdX8_near : ∀ w ∈ wsX8_near, goodWord w = true := List.forall_mem_cons.mpr ⟨by decide +kernel, List.forall_mem_append.mpr ⟨gdX8_near_o, List.forall_mem_append.mpr ⟨gdX80, List.forall_mem_append.mpr ⟨gdX8_isWord, List.forall_mem_append.mpr ⟨gdX8_in, List.forall_mem_append.mpr ⟨gdX8_distance, fun _ h => absurd h List.not_mem_nil⟩⟩⟩⟩⟩⟩
def wsX8_rules_o : List Cond := (([Cond.selects RX8 yX8_isGate yX8_isGate, Cond.selects RX8 yX8_isMissing yX8_isMissing, Cond.selects RX8 yX8_found yX8_found, Cond.selects RX8 yX8_isPart yX8_isPart, Cond.selects RX8 yX8_well yX8_well] : List Cond) ++ (([Cond.initialized RX8] : List Cond) ++ (([Cond.constant RX8 183 (-1000002), Cond.constant RX8 64 (-1000001), Cond.fieldLink RX8 25 "WrongWordModel" "now" "[I", Cond.fieldLink RX8 31 "WrongWordModel" "tried" "[I", Cond.fieldLink RX8 16 "WrongWordModel" "items" "[I", Cond.methodLink RX8 180 yX8_isGate, Cond.instanceMethod yX8_isGate, Cond.methodLink RX8 60 yX8_isRow, Cond.static yX8_isRow, Cond.methodLink RX8 56 yX8_in, Cond.static yX8_in, Cond.methodLink RX8 72 yX8_isMissing, Cond.instanceMethod yX8_isMissing, Cond.fieldLink RX8 7 "WrongWordModel" "lane" "[I", Cond.constant RX8 50 (-1000000), Cond.methodLink RX8 65 yX8_found, Cond.instanceMethod yX8_found, Cond.fieldLink RX8 51 "WrongWordModel" "status" "I", Cond.constant RX8 55 (-1000010), Cond.methodLink RX8 79 yX8_isPart, Cond.instanceMethod yX8_isPart, Cond.fieldLink RX8 13 "WrongWordModel" "many" "[I", Cond.methodLink RX8 145 yX8_copies, Cond.static yX8_copies, Cond.methodLink RX8 69 yX8_well, Cond.instanceMethod yX8_well] : List Cond) ++ (([Cond.methodLink RX8 172 yX8_secretOf, Cond.static yX8_secretOf] : List Cond) ++ ([] : List Cond)))))
def wsX8_rules : List Cond := .code yX8_rules cX8_rules 9 (some .int) :: (wsX8_rules_o ++ (wsX80 ++ (wsX8_isGate ++ (wsX8_isRow ++ (wsX8_in ++ (wsX8_isMissing ++ (wsX8_found ++ (wsX8_isPart ++ (wsX8_copies ++ (wsX8_secretOf ++ (wsX8_well ++ ([] : List Cond))))))))))))
set_option maxRecDepth 100000 in
theorem itX8_rules_o : ∀ w ∈ wsX8_rules_o, w ∈ lw_tbl := List.forall_mem_append.mpr ⟨fun w h => ch_0 w (mem_r (big := k2_sels lw_privs) _ [42, 29, 27, 30, 28] (by decide +kernel) w h), List.forall_mem_append.mpr ⟨fun w h => ch_1 w (mem_r (big := tables_1_1) _ [9] (by decide +kernel) w h), List.forall_mem_append.mpr ⟨fun w h => ch_4 w (mem_r (big := tables_1_4) _ [237, 132, 64, 66, 53, 233, 235, 126, 127, 129, 130, 146, 148, 51, 50, 133, 135, 55, 137, 157, 159, 52, 222, 223, 138, 140] (by decide +kernel) w h), List.forall_mem_append.mpr ⟨fun w h => ch_5 w (mem_r (big := tables_1_5) _ [6, 7] (by decide +kernel) w h), fun _ h => absurd h List.not_mem_nil⟩⟩⟩⟩
set_option maxRecDepth 100000 in
theorem itX8_rules : ∀ w ∈ wsX8_rules, w ∈ lw_tbl := List.forall_mem_cons.mpr ⟨ch_5 _ (List.mem_of_getElem? (l := tables_1_5) (i := 160) (by decide +kernel)), List.forall_mem_append.mpr ⟨itX8_rules_o, List.forall_mem_append.mpr ⟨itX80, List.forall_mem_append.mpr ⟨itX8_isGate, List.forall_mem_append.mpr ⟨itX8_isRow, List.forall_mem_append.mpr ⟨itX8_in, List.forall_mem_append.mpr ⟨itX8_isMissing, List.forall_mem_append.mpr ⟨itX8_found, List.forall_mem_append.mpr ⟨itX8_isPart, List.forall_mem_append.mpr ⟨itX8_copies, List.forall_mem_append.mpr ⟨itX8_secretOf, List.forall_mem_append.mpr ⟨itX8_well, fun _ h => absurd h List.not_mem_nil⟩⟩⟩⟩⟩⟩⟩⟩⟩⟩⟩⟩
set_option maxRecDepth 100000 in
theorem gdX8_rules_o : ∀ w ∈ wsX8_rules_o, goodWord w = true := gd_o (by decide +kernel)
set_option maxRecDepth 100000 in
theorem gdX8_rules : ∀ w ∈ wsX8_rules, goodWord w = true := List.forall_mem_cons.mpr ⟨by decide +kernel, List.forall_mem_append.mpr ⟨gdX8_rules_o, List.forall_mem_append.mpr ⟨gdX80, List.forall_mem_append.mpr ⟨gdX8_isGate, List.forall_mem_append.mpr ⟨gdX8_isRow, List.forall_mem_append.mpr ⟨gdX8_in, List.forall_mem_append.mpr ⟨gdX8_isMissing, List.forall_mem_append.mpr ⟨gdX8_found, List.forall_mem_append.mpr ⟨gdX8_isPart, List.forall_mem_append.mpr ⟨gdX8_copies, List.forall_mem_append.mpr ⟨gdX8_secretOf, List.forall_mem_append.mpr ⟨gdX8_well, fun _ h => absurd h List.not_mem_nil⟩⟩⟩⟩⟩⟩⟩⟩⟩⟩⟩⟩
def wsX8_takesSo_o : List Cond := (([Cond.selects RX8 yX8_takesBy yX8_takesBy, Cond.selects RX8 yX8_distance yX8_distance, Cond.selects RX8 yX8_lips yX8_lips] : List Cond) ++ (([Cond.initialized RX8] : List Cond) ++ (([Cond.fieldLink RX8 25 "WrongWordModel" "now" "[I", Cond.fieldLink RX8 16 "WrongWordModel" "items" "[I"] : List Cond) ++ (([Cond.methodLink RX8 168 yX8_takesBy, Cond.instanceMethod yX8_takesBy, Cond.methodLink RX8 152 yX8_distance, Cond.methodLink RX8 155 yX8_lips] : List Cond) ++ ([] : List Cond)))))
def wsX8_takesSo : List Cond := .code yX8_takesSo cX8_takesSo 6 (some .boolean) :: (wsX8_takesSo_o ++ (wsX80 ++ (wsX8_takesBy ++ ([] : List Cond))))
set_option maxRecDepth 100000 in
theorem itX8_takesSo_o : ∀ w ∈ wsX8_takesSo_o, w ∈ lw_tbl := List.forall_mem_append.mpr ⟨fun w h => ch_0 w (mem_r (big := k2_sels lw_privs) _ [50, 51, 52] (by decide +kernel) w h), List.forall_mem_append.mpr ⟨fun w h => ch_1 w (mem_r (big := tables_1_1) _ [9] (by decide +kernel) w h), List.forall_mem_append.mpr ⟨fun w h => ch_4 w (mem_r (big := tables_1_4) _ [64, 53] (by decide +kernel) w h), List.forall_mem_append.mpr ⟨fun w h => ch_5 w (mem_r (big := tables_1_5) _ [39, 41, 43, 47] (by decide +kernel) w h), fun _ h => absurd h List.not_mem_nil⟩⟩⟩⟩
set_option maxRecDepth 100000 in
theorem itX8_takesSo : ∀ w ∈ wsX8_takesSo, w ∈ lw_tbl := List.forall_mem_cons.mpr ⟨ch_5 _ (List.mem_of_getElem? (l := tables_1_5) (i := 168) (by decide +kernel)), List.forall_mem_append.mpr ⟨itX8_takesSo_o, List.forall_mem_append.mpr ⟨itX80, List.forall_mem_append.mpr ⟨itX8_takesBy, fun _ h => absurd h List.not_mem_nil⟩⟩⟩⟩
set_option maxRecDepth 100000 in
theorem gdX8_takesSo_o : ∀ w ∈ wsX8_takesSo_o, goodWord w = true := gd_o (by decide +kernel)
set_option maxRecDepth 100000 in
theorem gdX8_takesSo : ∀ w ∈ wsX8_takesSo, goodWord w = true := List.forall_mem_cons.mpr ⟨by decide +kernel, List.forall_mem_append.mpr ⟨gdX8_takesSo_o, List.forall_mem_append.mpr ⟨gdX80, List.forall_mem_append.mpr ⟨gdX8_takesBy, fun _ h => absurd h List.not_mem_nil⟩⟩⟩⟩
def wsX8_fits_o : List Cond := (([Cond.selects RX8 yX8_isGuard yX8_isGuard, Cond.selects RX8 yX8_isMissing yX8_isMissing, Cond.selects RX8 yX8_found yX8_found, Cond.selects RX8 yX8_isPart yX8_isPart, Cond.selects RX8 yX8_takesSo yX8_takesSo, Cond.selects RX8 yX8_takesBy yX8_takesBy, Cond.selects RX8 yX8_distance yX8_distance, Cond.selects RX8 yX8_lips yX8_lips, Cond.selects RX8 yX8_kindIn yX8_kindIn, Cond.selects RX8 yX8_well yX8_well] : List Cond) ++ (([Cond.initialized RX8] : List Cond) ++ (([Cond.constant RX8 64 (-1000001), Cond.fieldLink RX8 25 "WrongWordModel" "now" "[I", Cond.methodLink RX8 56 yX8_in, Cond.static yX8_in, Cond.methodLink RX8 60 yX8_isRow, Cond.static yX8_isRow, Cond.methodLink RX8 72 yX8_isMissing, Cond.instanceMethod yX8_isMissing, Cond.fieldLink RX8 7 "WrongWordModel" "lane" "[I", Cond.constant RX8 50 (-1000000), Cond.methodLink RX8 65 yX8_found, Cond.instanceMethod yX8_found, Cond.fieldLink RX8 51 "WrongWordModel" "status" "I", Cond.constant RX8 55 (-1000010), Cond.methodLink RX8 79 yX8_isPart, Cond.instanceMethod yX8_isPart, Cond.fieldLink RX8 13 "WrongWordModel" "many" "[I", Cond.fieldLink RX8 16 "WrongWordModel" "items" "[I", Cond.methodLink RX8 69 yX8_well, Cond.instanceMethod yX8_well] : List Cond) ++ (([Cond.methodLink RX8 199 yX8_isGuard, Cond.instanceMethod yX8_isGuard, Cond.methodLink RX8 172 yX8_secretOf, Cond.static yX8_secretOf, Cond.methodLink RX8 227 yX8_takesSo, Cond.instanceMethod yX8_takesSo, Cond.methodLink RX8 168 yX8_takesBy, Cond.methodLink RX8 152 yX8_distance, Cond.methodLink RX8 155 yX8_lips, Cond.methodLink RX8 165 yX8_kindIn, Cond.instanceMethod yX8_kindIn] : List Cond) ++ ([] : List Cond)))))
def wsX8_fits : List Cond := .code yX8_fits cX8_fits 8 (some .int) :: (wsX8_fits_o ++ (wsX80 ++ (wsX8_isGuard ++ (wsX8_isRow ++ (wsX8_in ++ (wsX8_isMissing ++ (wsX8_found ++ (wsX8_isPart ++ (wsX8_secretOf ++ (wsX8_takesSo ++ (wsX8_kindIn ++ (wsX8_well ++ ([] : List Cond)))))))))))))
set_option maxRecDepth 100000 in
theorem itX8_fits_o : ∀ w ∈ wsX8_fits_o, w ∈ lw_tbl := List.forall_mem_append.mpr ⟨fun w h => ch_0 w (mem_r (big := k2_sels lw_privs) _ [53, 29, 27, 30, 60, 50, 51, 52, 49, 28] (by decide +kernel) w h), List.forall_mem_append.mpr ⟨fun w h => ch_1 w (mem_r (big := tables_1_1) _ [9] (by decide +kernel) w h), List.forall_mem_append.mpr ⟨fun w h => ch_4 w (mem_r (big := tables_1_4) _ [132, 64, 129, 130, 126, 127, 146, 148, 51, 50, 133, 135, 55, 137, 157, 159, 52, 53, 138, 140] (by decide +kernel) w h), List.forall_mem_append.mpr ⟨fun w h => ch_5 w (mem_r (big := tables_1_5) _ [59, 61, 6, 7, 165, 167, 39, 43, 47, 35, 37] (by decide +kernel) w h), fun _ h => absurd h List.not_mem_nil⟩⟩⟩⟩
set_option maxRecDepth 100000 in
theorem itX8_fits : ∀ w ∈ wsX8_fits, w ∈ lw_tbl := List.forall_mem_cons.mpr ⟨ch_5 _ (List.mem_of_getElem? (l := tables_1_5) (i := 164) (by decide +kernel)), List.forall_mem_append.mpr ⟨itX8_fits_o, List.forall_mem_append.mpr ⟨itX80, List.forall_mem_append.mpr ⟨itX8_isGuard, List.forall_mem_append.mpr ⟨itX8_isRow, List.forall_mem_append.mpr ⟨itX8_in, List.forall_mem_append.mpr ⟨itX8_isMissing, List.forall_mem_append.mpr ⟨itX8_found, List.forall_mem_append.mpr ⟨itX8_isPart, List.forall_mem_append.mpr ⟨itX8_secretOf, List.forall_mem_append.mpr ⟨itX8_takesSo, List.forall_mem_append.mpr ⟨itX8_kindIn, List.forall_mem_append.mpr ⟨itX8_well, fun _ h => absurd h List.not_mem_nil⟩⟩⟩⟩⟩⟩⟩⟩⟩⟩⟩⟩⟩
set_option maxRecDepth 100000 in
theorem gdX8_fits_o : ∀ w ∈ wsX8_fits_o, goodWord w = true := gd_o (by decide +kernel)
set_option maxRecDepth 100000 in
theorem gdX8_fits : ∀ w ∈ wsX8_fits, goodWord w = true := List.forall_mem_cons.mpr ⟨by decide +kernel, List.forall_mem_append.mpr ⟨gdX8_fits_o, List.forall_mem_append.mpr ⟨gdX80, List.forall_mem_append.mpr ⟨gdX8_isGuard, List.forall_mem_append.mpr ⟨gdX8_isRow, List.forall_mem_append.mpr ⟨gdX8_in, List.forall_mem_append.mpr ⟨gdX8_isMissing, List.forall_mem_append.mpr ⟨gdX8_found, List.forall_mem_append.mpr ⟨gdX8_isPart, List.forall_mem_append.mpr ⟨gdX8_secretOf, List.forall_mem_append.mpr ⟨gdX8_takesSo, List.forall_mem_append.mpr ⟨gdX8_kindIn, List.forall_mem_append.mpr ⟨gdX8_well, fun _ h => absurd h List.not_mem_nil⟩⟩⟩⟩⟩⟩⟩⟩⟩⟩⟩⟩⟩
def wsX8_sure_o : List Cond := (([Cond.selects RX8 yX8_isWord yX8_isWord, Cond.selects RX8 yX8_agreeing yX8_agreeing, Cond.selects RX8 yX8_kindIn yX8_kindIn, Cond.selects RX8 yX8_takesBy yX8_takesBy, Cond.selects RX8 yX8_distance yX8_distance, Cond.selects RX8 yX8_lips yX8_lips, Cond.selects RX8 yX8_takenOf yX8_takenOf, Cond.selects RX8 yX8_isTaken yX8_isTaken, Cond.selects RX8 yX8_guardOn yX8_guardOn] : List Cond) ++ (([Cond.initialized RX8] : List Cond) ++ (([Cond.constant RX8 64 (-1000001), Cond.fieldLink RX8 25 "WrongWordModel" "now" "[I", Cond.methodLink RX8 56 yX8_in, Cond.static yX8_in] : List Cond) ++ (([Cond.methodLink RX8 190 yX8_isWord, Cond.instanceMethod yX8_isWord, Cond.methodLink RX8 193 yX8_isHour, Cond.static yX8_isHour, Cond.methodLink RX8 214 yX8_agreeing, Cond.instanceMethod yX8_agreeing, Cond.methodLink RX8 165 yX8_kindIn, Cond.methodLink RX8 168 yX8_takesBy, Cond.methodLink RX8 152 yX8_distance, Cond.methodLink RX8 155 yX8_lips, Cond.methodLink RX8 220 yX8_takenOf, Cond.instanceMethod yX8_takenOf, Cond.methodLink RX8 161 yX8_has, Cond.methodLink RX8 176 yX8_isTaken, Cond.methodLink RX8 158 yX8_guardOn, Cond.methodLink RX8 217 yX8_ones, Cond.static yX8_ones] : List Cond) ++ ([] : List Cond)))))
def wsX8_sure : List Cond := .code yX8_sure cX8_sure 12 (some .int) :: (wsX8_sure_o ++ (wsX80 ++ (wsX8_isWord ++ (wsX8_isHour ++ (wsX8_in ++ (wsX8_agreeing ++ (wsX8_takenOf ++ (wsX8_ones ++ ([] : List Cond)))))))))
set_option maxRecDepth 100000 in
theorem itX8_sure_o : ∀ w ∈ wsX8_sure_o, w ∈ lw_tbl := List.forall_mem_append.mpr ⟨fun w h => ch_0 w (mem_r (big := k2_sels lw_privs) _ [45, 57, 49, 50, 51, 52, 58, 48, 46] (by decide +kernel) w h), List.forall_mem_append.mpr ⟨fun w h => ch_1 w (mem_r (big := tables_1_1) _ [9] (by decide +kernel) w h), List.forall_mem_append.mpr ⟨fun w h => ch_4 w (mem_r (big := tables_1_4) _ [132, 64, 129, 130] (by decide +kernel) w h), List.forall_mem_append.mpr ⟨fun w h => ch_5 w (mem_r (big := tables_1_5) _ [13, 15, 17, 18, 122, 124, 35, 39, 43, 47, 133, 135, 32, 28, 20, 130, 131] (by decide +kernel) w h), fun _ h => absurd h List.not_mem_nil⟩⟩⟩⟩
set_option maxRecDepth 100000 in
theorem itX8_sure : ∀ w ∈ wsX8_sure, w ∈ lw_tbl := List.forall_mem_cons.mpr ⟨ch_5 _ (List.mem_of_getElem? (l := tables_1_5) (i := 172) (by decide +kernel)), List.forall_mem_append.mpr ⟨itX8_sure_o, List.forall_mem_append.mpr ⟨itX80, List.forall_mem_append.mpr ⟨itX8_isWord, List.forall_mem_append.mpr ⟨itX8_isHour, List.forall_mem_append.mpr ⟨itX8_in, List.forall_mem_append.mpr ⟨itX8_agreeing, List.forall_mem_append.mpr ⟨itX8_takenOf, List.forall_mem_append.mpr ⟨itX8_ones, fun _ h => absurd h List.not_mem_nil⟩⟩⟩⟩⟩⟩⟩⟩⟩
set_option maxRecDepth 100000 in
theorem gdX8_sure_o : ∀ w ∈ wsX8_sure_o, goodWord w = true := gd_o (by decide +kernel)
set_option maxRecDepth 100000 in
theorem gdX8_sure : ∀ w ∈ wsX8_sure, goodWord w = true := List.forall_mem_cons.mpr ⟨by decide +kernel, List.forall_mem_append.mpr ⟨gdX8_sure_o, List.forall_mem_append.mpr ⟨gdX80, List.forall_mem_append.mpr ⟨gdX8_isWord, List.forall_mem_append.mpr ⟨gdX8_isHour, List.forall_mem_append.mpr ⟨gdX8_in, List.forall_mem_append.mpr ⟨gdX8_agreeing, List.forall_mem_append.mpr ⟨gdX8_takenOf, List.forall_mem_append.mpr ⟨gdX8_ones, fun _ h => absurd h List.not_mem_nil⟩⟩⟩⟩⟩⟩⟩⟩⟩
def wsX8_drawn_o : List Cond := (([Cond.selects RX8 yX8_isGate yX8_isGate, Cond.selects RX8 yX8_isTakenNow yX8_isTakenNow, Cond.selects RX8 yX8_isTaken yX8_isTaken, Cond.selects RX8 yX8_guardOn yX8_guardOn, Cond.selects RX8 yX8_kindIn yX8_kindIn, Cond.selects RX8 yX8_takesBy yX8_takesBy, Cond.selects RX8 yX8_distance yX8_distance, Cond.selects RX8 yX8_lips yX8_lips] : List Cond) ++ (([Cond.initialized RX8] : List Cond) ++ (([Cond.constant RX8 183 (-1000002), Cond.constant RX8 64 (-1000001), Cond.fieldLink RX8 25 "WrongWordModel" "now" "[I", Cond.methodLink RX8 180 yX8_isGate, Cond.instanceMethod yX8_isGate, Cond.methodLink RX8 56 yX8_in, Cond.static yX8_in] : List Cond) ++ (([Cond.constant RX8 230 (999999), Cond.constantLong RX8 231 (16807), Cond.constantLong RX8 233 (2147483647), Cond.constantLong RX8 235 (6), Cond.methodLink RX8 205 yX8_isFar, Cond.static yX8_isFar, Cond.methodLink RX8 196 yX8_isTakenNow, Cond.instanceMethod yX8_isTakenNow, Cond.methodLink RX8 172 yX8_secretOf, Cond.methodLink RX8 176 yX8_isTaken, Cond.methodLink RX8 158 yX8_guardOn, Cond.methodLink RX8 161 yX8_has, Cond.methodLink RX8 165 yX8_kindIn, Cond.methodLink RX8 168 yX8_takesBy, Cond.methodLink RX8 152 yX8_distance, Cond.methodLink RX8 155 yX8_lips] : List Cond) ++ ([] : List Cond)))))
def wsX8_drawn : List Cond := .code yX8_drawn cX8_drawn 11 (some .int) :: (wsX8_drawn_o ++ (wsX80 ++ (wsX8_isGate ++ (wsX8_isFar ++ (wsX8_in ++ (wsX8_isTakenNow ++ ([] : List Cond)))))))
set_option maxRecDepth 100000 in
theorem itX8_drawn_o : ∀ w ∈ wsX8_drawn_o, w ∈ lw_tbl := List.forall_mem_append.mpr ⟨fun w h => ch_0 w (mem_r (big := k2_sels lw_privs) _ [42, 47, 48, 46, 49, 50, 51, 52] (by decide +kernel) w h), List.forall_mem_append.mpr ⟨fun w h => ch_1 w (mem_r (big := tables_1_1) _ [9] (by decide +kernel) w h), List.forall_mem_append.mpr ⟨fun w h => ch_4 w (mem_r (big := tables_1_4) _ [237, 132, 64, 233, 235, 129, 130] (by decide +kernel) w h), List.forall_mem_append.mpr ⟨fun w h => ch_5 w (mem_r (big := tables_1_5) _ [177, 178, 179, 180, 91, 92, 24, 26, 6, 28, 20, 32, 35, 39, 43, 47] (by decide +kernel) w h), fun _ h => absurd h List.not_mem_nil⟩⟩⟩⟩
set_option maxRecDepth 100000 in
theorem itX8_drawn : ∀ w ∈ wsX8_drawn, w ∈ lw_tbl := List.forall_mem_cons.mpr ⟨ch_5 _ (List.mem_of_getElem? (l := tables_1_5) (i := 176) (by decide +kernel)), List.forall_mem_append.mpr ⟨itX8_drawn_o, List.forall_mem_append.mpr ⟨itX80, List.forall_mem_append.mpr ⟨itX8_isGate, List.forall_mem_append.mpr ⟨itX8_isFar, List.forall_mem_append.mpr ⟨itX8_in, List.forall_mem_append.mpr ⟨itX8_isTakenNow, fun _ h => absurd h List.not_mem_nil⟩⟩⟩⟩⟩⟩⟩
set_option maxRecDepth 100000 in
theorem gdX8_drawn_o : ∀ w ∈ wsX8_drawn_o, goodWord w = true := gd_o (by decide +kernel)
set_option maxRecDepth 100000 in
theorem gdX8_drawn : ∀ w ∈ wsX8_drawn, goodWord w = true := List.forall_mem_cons.mpr ⟨by decide +kernel, List.forall_mem_append.mpr ⟨gdX8_drawn_o, List.forall_mem_append.mpr ⟨gdX80, List.forall_mem_append.mpr ⟨gdX8_isGate, List.forall_mem_append.mpr ⟨gdX8_isFar, List.forall_mem_append.mpr ⟨gdX8_in, List.forall_mem_append.mpr ⟨gdX8_isTakenNow, fun _ h => absurd h List.not_mem_nil⟩⟩⟩⟩⟩⟩⟩
def wsX8_image_o : List Cond := (([Cond.selects RX8 yX8_isGate yX8_isGate] : List Cond) ++ (([Cond.initialized RX8] : List Cond) ++ (([Cond.constant RX8 64 (-1000001), Cond.constant RX8 183 (-1000002), Cond.fieldLink RX8 25 "WrongWordModel" "now" "[I", Cond.fieldLink RX8 37 "WrongWordModel" "images" "[I", Cond.fieldLink RX8 40 "WrongWordModel" "kept" "[Z", Cond.methodLink RX8 56 yX8_in, Cond.static yX8_in, Cond.methodLink RX8 180 yX8_isGate, Cond.instanceMethod yX8_isGate, Cond.methodLink RX8 145 yX8_copies, Cond.static yX8_copies] : List Cond) ++ ([] : List Cond))))
def wsX8_image : List Cond := .code yX8_image cX8_image 2 (some .int) :: (wsX8_image_o ++ (wsX80 ++ (wsX8_in ++ (wsX8_isGate ++ (wsX8_copies ++ ([] : List Cond))))))
set_option maxRecDepth 100000 in
theorem itX8_image_o : ∀ w ∈ wsX8_image_o, w ∈ lw_tbl := List.forall_mem_append.mpr ⟨fun w h => ch_0 w (mem_r (big := k2_sels lw_privs) _ [42] (by decide +kernel) w h), List.forall_mem_append.mpr ⟨fun w h => ch_1 w (mem_r (big := tables_1_1) _ [9] (by decide +kernel) w h), List.forall_mem_append.mpr ⟨fun w h => ch_4 w (mem_r (big := tables_1_4) _ [132, 237, 64, 69, 70, 129, 130, 233, 235, 222, 223] (by decide +kernel) w h), fun _ h => absurd h List.not_mem_nil⟩⟩⟩
set_option maxRecDepth 100000 in
theorem itX8_image : ∀ w ∈ wsX8_image, w ∈ lw_tbl := List.forall_mem_cons.mpr ⟨ch_5 _ (List.mem_of_getElem? (l := tables_1_5) (i := 184) (by decide +kernel)), List.forall_mem_append.mpr ⟨itX8_image_o, List.forall_mem_append.mpr ⟨itX80, List.forall_mem_append.mpr ⟨itX8_in, List.forall_mem_append.mpr ⟨itX8_isGate, List.forall_mem_append.mpr ⟨itX8_copies, fun _ h => absurd h List.not_mem_nil⟩⟩⟩⟩⟩⟩
set_option maxRecDepth 100000 in
theorem gdX8_image_o : ∀ w ∈ wsX8_image_o, goodWord w = true := gd_o (by decide +kernel)
set_option maxRecDepth 100000 in
theorem gdX8_image : ∀ w ∈ wsX8_image, goodWord w = true := List.forall_mem_cons.mpr ⟨by decide +kernel, List.forall_mem_append.mpr ⟨gdX8_image_o, List.forall_mem_append.mpr ⟨gdX80, List.forall_mem_append.mpr ⟨gdX8_in, List.forall_mem_append.mpr ⟨gdX8_isGate, List.forall_mem_append.mpr ⟨gdX8_copies, fun _ h => absurd h List.not_mem_nil⟩⟩⟩⟩⟩⟩
def wsX8_restore_o : List Cond := (([Cond.initialized RX8] : List Cond) ++ (([Cond.constant RX8 64 (-1000001), Cond.fieldLink RX8 40 "WrongWordModel" "kept" "[Z", Cond.constant RX8 183 (-1000002), Cond.fieldLink RX8 37 "WrongWordModel" "images" "[I", Cond.fieldLink RX8 25 "WrongWordModel" "now" "[I", Cond.fieldLink RX8 149 "WrongWordModel" "acts" "I", Cond.methodLink RX8 56 yX8_in, Cond.static yX8_in, Cond.methodLink RX8 145 yX8_copies, Cond.static yX8_copies] : List Cond) ++ ([] : List Cond)))
def wsX8_restore : List Cond := .code yX8_restore cX8_restore 2 (some .int) :: (wsX8_restore_o ++ (wsX80 ++ (wsX8_in ++ (wsX8_copies ++ ([] : List Cond)))))
set_option maxRecDepth 100000 in
theorem itX8_restore_o : ∀ w ∈ wsX8_restore_o, w ∈ lw_tbl := List.forall_mem_append.mpr ⟨fun w h => ch_1 w (mem_r (big := tables_1_1) _ [9] (by decide +kernel) w h), List.forall_mem_append.mpr ⟨fun w h => ch_4 w (mem_r (big := tables_1_4) _ [132, 70, 237, 69, 64, 68, 129, 130, 222, 223] (by decide +kernel) w h), fun _ h => absurd h List.not_mem_nil⟩⟩
set_option maxRecDepth 100000 in
theorem itX8_restore : ∀ w ∈ wsX8_restore, w ∈ lw_tbl := List.forall_mem_cons.mpr ⟨ch_5 _ (List.mem_of_getElem? (l := tables_1_5) (i := 188) (by decide +kernel)), List.forall_mem_append.mpr ⟨itX8_restore_o, List.forall_mem_append.mpr ⟨itX80, List.forall_mem_append.mpr ⟨itX8_in, List.forall_mem_append.mpr ⟨itX8_copies, fun _ h => absurd h List.not_mem_nil⟩⟩⟩⟩⟩
set_option maxRecDepth 100000 in
theorem gdX8_restore_o : ∀ w ∈ wsX8_restore_o, goodWord w = true := gd_o (by decide +kernel)
set_option maxRecDepth 100000 in
theorem gdX8_restore : ∀ w ∈ wsX8_restore, goodWord w = true := List.forall_mem_cons.mpr ⟨by decide +kernel, List.forall_mem_append.mpr ⟨gdX8_restore_o, List.forall_mem_append.mpr ⟨gdX80, List.forall_mem_append.mpr ⟨gdX8_in, List.forall_mem_append.mpr ⟨gdX8_copies, fun _ h => absurd h List.not_mem_nil⟩⟩⟩⟩⟩
def wsX8_kind_o : List Cond := (([Cond.selects RX8 yX8_isGuard yX8_isGuard, Cond.selects RX8 yX8_kindIn yX8_kindIn] : List Cond) ++ (([Cond.initialized RX8] : List Cond) ++ (([Cond.constant RX8 64 (-1000001), Cond.fieldLink RX8 25 "WrongWordModel" "now" "[I", Cond.methodLink RX8 56 yX8_in] : List Cond) ++ (([Cond.methodLink RX8 199 yX8_isGuard, Cond.instanceMethod yX8_isGuard, Cond.methodLink RX8 165 yX8_kindIn, Cond.instanceMethod yX8_kindIn] : List Cond) ++ ([] : List Cond)))))
def wsX8_kind : List Cond := .code yX8_kind cX8_kind 2 (some .int) :: (wsX8_kind_o ++ (wsX80 ++ (wsX8_isGuard ++ (wsX8_kindIn ++ ([] : List Cond)))))
set_option maxRecDepth 100000 in
theorem itX8_kind_o : ∀ w ∈ wsX8_kind_o, w ∈ lw_tbl := List.forall_mem_append.mpr ⟨fun w h => ch_0 w (mem_r (big := k2_sels lw_privs) _ [53, 49] (by decide +kernel) w h), List.forall_mem_append.mpr ⟨fun w h => ch_1 w (mem_r (big := tables_1_1) _ [9] (by decide +kernel) w h), List.forall_mem_append.mpr ⟨fun w h => ch_4 w (mem_r (big := tables_1_4) _ [132, 64, 129] (by decide +kernel) w h), List.forall_mem_append.mpr ⟨fun w h => ch_5 w (mem_r (big := tables_1_5) _ [59, 61, 35, 37] (by decide +kernel) w h), fun _ h => absurd h List.not_mem_nil⟩⟩⟩⟩
set_option maxRecDepth 100000 in
theorem itX8_kind : ∀ w ∈ wsX8_kind, w ∈ lw_tbl := List.forall_mem_cons.mpr ⟨ch_5 _ (List.mem_of_getElem? (l := tables_1_5) (i := 192) (by decide +kernel)), List.forall_mem_append.mpr ⟨itX8_kind_o, List.forall_mem_append.mpr ⟨itX80, List.forall_mem_append.mpr ⟨itX8_isGuard, List.forall_mem_append.mpr ⟨itX8_kindIn, fun _ h => absurd h List.not_mem_nil⟩⟩⟩⟩⟩
set_option maxRecDepth 100000 in
theorem gdX8_kind_o : ∀ w ∈ wsX8_kind_o, goodWord w = true := gd_o (by decide +kernel)
set_option maxRecDepth 100000 in
theorem gdX8_kind : ∀ w ∈ wsX8_kind, goodWord w = true := List.forall_mem_cons.mpr ⟨by decide +kernel, List.forall_mem_append.mpr ⟨gdX8_kind_o, List.forall_mem_append.mpr ⟨gdX80, List.forall_mem_append.mpr ⟨gdX8_isGuard, List.forall_mem_append.mpr ⟨gdX8_kindIn, fun _ h => absurd h List.not_mem_nil⟩⟩⟩⟩⟩
def wsX8_as_o : List Cond := (([Cond.selects RX8 yX8_isGuard yX8_isGuard, Cond.selects RX8 yX8_kindIn yX8_kindIn, Cond.selects RX8 yX8_well yX8_well, Cond.selects RX8 yX8_found yX8_found] : List Cond) ++ (([Cond.initialized RX8] : List Cond) ++ (([Cond.constant RX8 64 (-1000001), Cond.fieldLink RX8 25 "WrongWordModel" "now" "[I", Cond.methodLink RX8 56 yX8_in, Cond.static yX8_in, Cond.methodLink RX8 69 yX8_well, Cond.instanceMethod yX8_well, Cond.fieldLink RX8 51 "WrongWordModel" "status" "I", Cond.methodLink RX8 65 yX8_found, Cond.instanceMethod yX8_found, Cond.constant RX8 55 (-1000010)] : List Cond) ++ (([Cond.methodLink RX8 199 yX8_isGuard, Cond.instanceMethod yX8_isGuard, Cond.methodLink RX8 165 yX8_kindIn, Cond.instanceMethod yX8_kindIn] : List Cond) ++ ([] : List Cond)))))
def wsX8_as : List Cond := .code yX8_as cX8_as 5 (some .int) :: (wsX8_as_o ++ (wsX80 ++ (wsX8_isGuard ++ (wsX8_in ++ (wsX8_kindIn ++ (wsX8_well ++ (wsX8_found ++ ([] : List Cond))))))))
set_option maxRecDepth 100000 in
theorem itX8_as_o : ∀ w ∈ wsX8_as_o, w ∈ lw_tbl := List.forall_mem_append.mpr ⟨fun w h => ch_0 w (mem_r (big := k2_sels lw_privs) _ [53, 49, 28, 27] (by decide +kernel) w h), List.forall_mem_append.mpr ⟨fun w h => ch_1 w (mem_r (big := tables_1_1) _ [9] (by decide +kernel) w h), List.forall_mem_append.mpr ⟨fun w h => ch_4 w (mem_r (big := tables_1_4) _ [132, 64, 129, 130, 138, 140, 55, 133, 135, 137] (by decide +kernel) w h), List.forall_mem_append.mpr ⟨fun w h => ch_5 w (mem_r (big := tables_1_5) _ [59, 61, 35, 37] (by decide +kernel) w h), fun _ h => absurd h List.not_mem_nil⟩⟩⟩⟩
set_option maxRecDepth 100000 in
theorem itX8_as : ∀ w ∈ wsX8_as, w ∈ lw_tbl := List.forall_mem_cons.mpr ⟨ch_5 _ (List.mem_of_getElem? (l := tables_1_5) (i := 196) (by decide +kernel)), List.forall_mem_append.mpr ⟨itX8_as_o, List.forall_mem_append.mpr ⟨itX80, List.forall_mem_append.mpr ⟨itX8_isGuard, List.forall_mem_append.mpr ⟨itX8_in, List.forall_mem_append.mpr ⟨itX8_kindIn, List.forall_mem_append.mpr ⟨itX8_well, List.forall_mem_append.mpr ⟨itX8_found, fun _ h => absurd h List.not_mem_nil⟩⟩⟩⟩⟩⟩⟩⟩
set_option maxRecDepth 100000 in
theorem gdX8_as_o : ∀ w ∈ wsX8_as_o, goodWord w = true := gd_o (by decide +kernel)
set_option maxRecDepth 100000 in
theorem gdX8_as : ∀ w ∈ wsX8_as, goodWord w = true := List.forall_mem_cons.mpr ⟨by decide +kernel, List.forall_mem_append.mpr ⟨gdX8_as_o, List.forall_mem_append.mpr ⟨gdX80, List.forall_mem_append.mpr ⟨gdX8_isGuard, List.forall_mem_append.mpr ⟨gdX8_in, List.forall_mem_append.mpr ⟨gdX8_kindIn, List.forall_mem_append.mpr ⟨gdX8_well, List.forall_mem_append.mpr ⟨gdX8_found, fun _ h => absurd h List.not_mem_nil⟩⟩⟩⟩⟩⟩⟩⟩
def wsX8_begins_o : List Cond := (([Cond.fieldLink RX8 237 "WrongWordModel" "traced" "I", Cond.fieldLink RX8 47 "WrongWordModel" "trace" "[I"] : List Cond) ++ ([] : List Cond))
def wsX8_begins : List Cond := .code yX8_begins cX8_begins 2 none :: (wsX8_begins_o ++ (wsX80 ++ ([] : List Cond)))
set_option maxRecDepth 100000 in
theorem itX8_begins_o : ∀ w ∈ wsX8_begins_o, w ∈ lw_tbl := List.forall_mem_append.mpr ⟨fun w h => ch_4 w (mem_r (big := tables_1_4) _ [73, 72] (by decide +kernel) w h), fun _ h => absurd h List.not_mem_nil⟩
set_option maxRecDepth 100000 in
theorem itX8_begins : ∀ w ∈ wsX8_begins, w ∈ lw_tbl := List.forall_mem_cons.mpr ⟨ch_5 _ (List.mem_of_getElem? (l := tables_1_5) (i := 208) (by decide +kernel)), List.forall_mem_append.mpr ⟨itX8_begins_o, List.forall_mem_append.mpr ⟨itX80, fun _ h => absurd h List.not_mem_nil⟩⟩⟩
set_option maxRecDepth 100000 in
theorem gdX8_begins_o : ∀ w ∈ wsX8_begins_o, goodWord w = true := gd_o (by decide +kernel)
set_option maxRecDepth 100000 in
theorem gdX8_begins : ∀ w ∈ wsX8_begins, goodWord w = true := List.forall_mem_cons.mpr ⟨by decide +kernel, List.forall_mem_append.mpr ⟨gdX8_begins_o, List.forall_mem_append.mpr ⟨gdX80, fun _ h => absurd h List.not_mem_nil⟩⟩⟩
def wsX8_keenMark_o : List Cond := (([Cond.selects RX8 yX8_kindIn yX8_kindIn, Cond.selects RX8 yX8_begins yX8_begins] : List Cond) ++ (([Cond.initialized RX8] : List Cond) ++ (([Cond.fieldLink RX8 25 "WrongWordModel" "now" "[I", Cond.fieldLink RX8 237 "WrongWordModel" "traced" "I", Cond.fieldLink RX8 47 "WrongWordModel" "trace" "[I"] : List Cond) ++ (([Cond.methodLink RX8 165 yX8_kindIn, Cond.instanceMethod yX8_kindIn, Cond.methodLink RX8 240 yX8_begins, Cond.instanceMethod yX8_begins] : List Cond) ++ ([] : List Cond)))))
def wsX8_keenMark : List Cond := .code yX8_keenMark cX8_keenMark 4 (some .int) :: (wsX8_keenMark_o ++ (wsX80 ++ (wsX8_kindIn ++ (wsX8_begins ++ ([] : List Cond)))))
set_option maxRecDepth 100000 in
theorem itX8_keenMark_o : ∀ w ∈ wsX8_keenMark_o, w ∈ lw_tbl := List.forall_mem_append.mpr ⟨fun w h => ch_0 w (mem_r (big := k2_sels lw_privs) _ [49, 62] (by decide +kernel) w h), List.forall_mem_append.mpr ⟨fun w h => ch_1 w (mem_r (big := tables_1_1) _ [9] (by decide +kernel) w h), List.forall_mem_append.mpr ⟨fun w h => ch_4 w (mem_r (big := tables_1_4) _ [64, 73, 72] (by decide +kernel) w h), List.forall_mem_append.mpr ⟨fun w h => ch_5 w (mem_r (big := tables_1_5) _ [35, 37, 205, 207] (by decide +kernel) w h), fun _ h => absurd h List.not_mem_nil⟩⟩⟩⟩
set_option maxRecDepth 100000 in
theorem itX8_keenMark : ∀ w ∈ wsX8_keenMark, w ∈ lw_tbl := List.forall_mem_cons.mpr ⟨ch_5 _ (List.mem_of_getElem? (l := tables_1_5) (i := 216) (by decide +kernel)), List.forall_mem_append.mpr ⟨itX8_keenMark_o, List.forall_mem_append.mpr ⟨itX80, List.forall_mem_append.mpr ⟨itX8_kindIn, List.forall_mem_append.mpr ⟨itX8_begins, fun _ h => absurd h List.not_mem_nil⟩⟩⟩⟩⟩
set_option maxRecDepth 100000 in
theorem gdX8_keenMark_o : ∀ w ∈ wsX8_keenMark_o, goodWord w = true := gd_o (by decide +kernel)
set_option maxRecDepth 100000 in
theorem gdX8_keenMark : ∀ w ∈ wsX8_keenMark, goodWord w = true := List.forall_mem_cons.mpr ⟨by decide +kernel, List.forall_mem_append.mpr ⟨gdX8_keenMark_o, List.forall_mem_append.mpr ⟨gdX80, List.forall_mem_append.mpr ⟨gdX8_kindIn, List.forall_mem_append.mpr ⟨gdX8_begins, fun _ h => absurd h List.not_mem_nil⟩⟩⟩⟩⟩
def wsX8_deafSize_o : List Cond := (([Cond.selects RX8 yX8_kindIn yX8_kindIn, Cond.selects RX8 yX8_begins yX8_begins] : List Cond) ++ (([Cond.initialized RX8] : List Cond) ++ (([Cond.fieldLink RX8 25 "WrongWordModel" "now" "[I", Cond.fieldLink RX8 237 "WrongWordModel" "traced" "I", Cond.fieldLink RX8 47 "WrongWordModel" "trace" "[I"] : List Cond) ++ (([Cond.methodLink RX8 165 yX8_kindIn, Cond.instanceMethod yX8_kindIn, Cond.methodLink RX8 240 yX8_begins, Cond.instanceMethod yX8_begins] : List Cond) ++ ([] : List Cond)))))
def wsX8_deafSize : List Cond := .code yX8_deafSize cX8_deafSize 4 (some .int) :: (wsX8_deafSize_o ++ (wsX80 ++ (wsX8_kindIn ++ (wsX8_begins ++ ([] : List Cond)))))
set_option maxRecDepth 100000 in
theorem itX8_deafSize_o : ∀ w ∈ wsX8_deafSize_o, w ∈ lw_tbl := List.forall_mem_append.mpr ⟨fun w h => ch_0 w (mem_r (big := k2_sels lw_privs) _ [49, 62] (by decide +kernel) w h), List.forall_mem_append.mpr ⟨fun w h => ch_1 w (mem_r (big := tables_1_1) _ [9] (by decide +kernel) w h), List.forall_mem_append.mpr ⟨fun w h => ch_4 w (mem_r (big := tables_1_4) _ [64, 73, 72] (by decide +kernel) w h), List.forall_mem_append.mpr ⟨fun w h => ch_5 w (mem_r (big := tables_1_5) _ [35, 37, 205, 207] (by decide +kernel) w h), fun _ h => absurd h List.not_mem_nil⟩⟩⟩⟩
set_option maxRecDepth 100000 in
theorem itX8_deafSize : ∀ w ∈ wsX8_deafSize, w ∈ lw_tbl := List.forall_mem_cons.mpr ⟨ch_5 _ (List.mem_of_getElem? (l := tables_1_5) (i := 204) (by decide +kernel)), List.forall_mem_append.mpr ⟨itX8_deafSize_o, List.forall_mem_append.mpr ⟨itX80, List.forall_mem_append.mpr ⟨itX8_kindIn, List.forall_mem_append.mpr ⟨itX8_begins, fun _ h => absurd h List.not_mem_nil⟩⟩⟩⟩⟩
set_option maxRecDepth 100000 in
theorem gdX8_deafSize_o : ∀ w ∈ wsX8_deafSize_o, goodWord w = true := gd_o (by decide +kernel)
set_option maxRecDepth 100000 in
theorem gdX8_deafSize : ∀ w ∈ wsX8_deafSize, goodWord w = true := List.forall_mem_cons.mpr ⟨by decide +kernel, List.forall_mem_append.mpr ⟨gdX8_deafSize_o, List.forall_mem_append.mpr ⟨gdX80, List.forall_mem_append.mpr ⟨gdX8_kindIn, List.forall_mem_append.mpr ⟨gdX8_begins, fun _ h => absurd h List.not_mem_nil⟩⟩⟩⟩⟩
def wsX8_keenSize_o : List Cond := (([Cond.selects RX8 yX8_kindIn yX8_kindIn, Cond.selects RX8 yX8_begins yX8_begins, Cond.selects RX8 yX8_keenMark yX8_keenMark] : List Cond) ++ (([Cond.initialized RX8] : List Cond) ++ (([Cond.fieldLink RX8 25 "WrongWordModel" "now" "[I", Cond.fieldLink RX8 237 "WrongWordModel" "traced" "I", Cond.fieldLink RX8 47 "WrongWordModel" "trace" "[I"] : List Cond) ++ (([Cond.methodLink RX8 165 yX8_kindIn, Cond.instanceMethod yX8_kindIn, Cond.methodLink RX8 240 yX8_begins, Cond.instanceMethod yX8_begins, Cond.methodLink RX8 244 yX8_keenMark, Cond.instanceMethod yX8_keenMark] : List Cond) ++ ([] : List Cond)))))
def wsX8_keenSize : List Cond := .code yX8_keenSize cX8_keenSize 4 (some .int) :: (wsX8_keenSize_o ++ (wsX80 ++ (wsX8_kindIn ++ (wsX8_begins ++ (wsX8_keenMark ++ ([] : List Cond))))))
set_option maxRecDepth 100000 in
theorem itX8_keenSize_o : ∀ w ∈ wsX8_keenSize_o, w ∈ lw_tbl := List.forall_mem_append.mpr ⟨fun w h => ch_0 w (mem_r (big := k2_sels lw_privs) _ [49, 62, 64] (by decide +kernel) w h), List.forall_mem_append.mpr ⟨fun w h => ch_1 w (mem_r (big := tables_1_1) _ [9] (by decide +kernel) w h), List.forall_mem_append.mpr ⟨fun w h => ch_4 w (mem_r (big := tables_1_4) _ [64, 73, 72] (by decide +kernel) w h), List.forall_mem_append.mpr ⟨fun w h => ch_5 w (mem_r (big := tables_1_5) _ [35, 37, 205, 207, 213, 215] (by decide +kernel) w h), fun _ h => absurd h List.not_mem_nil⟩⟩⟩⟩
set_option maxRecDepth 100000 in
theorem itX8_keenSize : ∀ w ∈ wsX8_keenSize, w ∈ lw_tbl := List.forall_mem_cons.mpr ⟨ch_5 _ (List.mem_of_getElem? (l := tables_1_5) (i := 212) (by decide +kernel)), List.forall_mem_append.mpr ⟨itX8_keenSize_o, List.forall_mem_append.mpr ⟨itX80, List.forall_mem_append.mpr ⟨itX8_kindIn, List.forall_mem_append.mpr ⟨itX8_begins, List.forall_mem_append.mpr ⟨itX8_keenMark, fun _ h => absurd h List.not_mem_nil⟩⟩⟩⟩⟩⟩
set_option maxRecDepth 100000 in
theorem gdX8_keenSize_o : ∀ w ∈ wsX8_keenSize_o, goodWord w = true := gd_o (by decide +kernel)
set_option maxRecDepth 100000 in
theorem gdX8_keenSize : ∀ w ∈ wsX8_keenSize, goodWord w = true := List.forall_mem_cons.mpr ⟨by decide +kernel, List.forall_mem_append.mpr ⟨gdX8_keenSize_o, List.forall_mem_append.mpr ⟨gdX80, List.forall_mem_append.mpr ⟨gdX8_kindIn, List.forall_mem_append.mpr ⟨gdX8_begins, List.forall_mem_append.mpr ⟨gdX8_keenMark, fun _ h => absurd h List.not_mem_nil⟩⟩⟩⟩⟩⟩
def wsX8_deafMark_o : List Cond := (([Cond.selects RX8 yX8_begins yX8_begins, Cond.selects RX8 yX8_deafSize yX8_deafSize, Cond.selects RX8 yX8_kindIn yX8_kindIn] : List Cond) ++ (([Cond.initialized RX8] : List Cond) ++ (([Cond.fieldLink RX8 237 "WrongWordModel" "traced" "I", Cond.fieldLink RX8 47 "WrongWordModel" "trace" "[I", Cond.fieldLink RX8 25 "WrongWordModel" "now" "[I"] : List Cond) ++ (([Cond.methodLink RX8 240 yX8_begins, Cond.instanceMethod yX8_begins, Cond.methodLink RX8 247 yX8_deafSize, Cond.instanceMethod yX8_deafSize, Cond.methodLink RX8 165 yX8_kindIn] : List Cond) ++ ([] : List Cond)))))
def wsX8_deafMark : List Cond := .code yX8_deafMark cX8_deafMark 2 (some .int) :: (wsX8_deafMark_o ++ (wsX80 ++ (wsX8_begins ++ (wsX8_deafSize ++ ([] : List Cond)))))
set_option maxRecDepth 100000 in
theorem itX8_deafMark_o : ∀ w ∈ wsX8_deafMark_o, w ∈ lw_tbl := List.forall_mem_append.mpr ⟨fun w h => ch_0 w (mem_r (big := k2_sels lw_privs) _ [62, 61, 49] (by decide +kernel) w h), List.forall_mem_append.mpr ⟨fun w h => ch_1 w (mem_r (big := tables_1_1) _ [9] (by decide +kernel) w h), List.forall_mem_append.mpr ⟨fun w h => ch_4 w (mem_r (big := tables_1_4) _ [73, 72, 64] (by decide +kernel) w h), List.forall_mem_append.mpr ⟨fun w h => ch_5 w (mem_r (big := tables_1_5) _ [205, 207, 201, 203, 35] (by decide +kernel) w h), fun _ h => absurd h List.not_mem_nil⟩⟩⟩⟩
set_option maxRecDepth 100000 in
theorem itX8_deafMark : ∀ w ∈ wsX8_deafMark, w ∈ lw_tbl := List.forall_mem_cons.mpr ⟨ch_5 _ (List.mem_of_getElem? (l := tables_1_5) (i := 220) (by decide +kernel)), List.forall_mem_append.mpr ⟨itX8_deafMark_o, List.forall_mem_append.mpr ⟨itX80, List.forall_mem_append.mpr ⟨itX8_begins, List.forall_mem_append.mpr ⟨itX8_deafSize, fun _ h => absurd h List.not_mem_nil⟩⟩⟩⟩⟩
set_option maxRecDepth 100000 in
theorem gdX8_deafMark_o : ∀ w ∈ wsX8_deafMark_o, goodWord w = true := gd_o (by decide +kernel)
set_option maxRecDepth 100000 in
theorem gdX8_deafMark : ∀ w ∈ wsX8_deafMark, goodWord w = true := List.forall_mem_cons.mpr ⟨by decide +kernel, List.forall_mem_append.mpr ⟨gdX8_deafMark_o, List.forall_mem_append.mpr ⟨gdX80, List.forall_mem_append.mpr ⟨gdX8_begins, List.forall_mem_append.mpr ⟨gdX8_deafSize, fun _ h => absurd h List.not_mem_nil⟩⟩⟩⟩⟩
def wsX8_ask_o : List Cond := (([Cond.selects RX8 yX8_isGuard yX8_isGuard, Cond.selects RX8 yX8_kindIn yX8_kindIn, Cond.selects RX8 yX8_deafSize yX8_deafSize, Cond.selects RX8 yX8_begins yX8_begins, Cond.selects RX8 yX8_keenSize yX8_keenSize, Cond.selects RX8 yX8_keenMark yX8_keenMark, Cond.selects RX8 yX8_deafMark yX8_deafMark] : List Cond) ++ (([Cond.initialized RX8] : List Cond) ++ (([Cond.constant RX8 64 (-1000001), Cond.fieldLink RX8 237 "WrongWordModel" "traced" "I", Cond.fieldLink RX8 25 "WrongWordModel" "now" "[I", Cond.methodLink RX8 56 yX8_in, Cond.static yX8_in, Cond.fieldLink RX8 47 "WrongWordModel" "trace" "[I"] : List Cond) ++ (([Cond.methodLink RX8 199 yX8_isGuard, Cond.instanceMethod yX8_isGuard, Cond.methodLink RX8 165 yX8_kindIn, Cond.instanceMethod yX8_kindIn, Cond.methodLink RX8 247 yX8_deafSize, Cond.instanceMethod yX8_deafSize, Cond.methodLink RX8 240 yX8_begins, Cond.methodLink RX8 250 yX8_keenSize, Cond.instanceMethod yX8_keenSize, Cond.methodLink RX8 244 yX8_keenMark, Cond.instanceMethod yX8_keenMark, Cond.methodLink RX8 253 yX8_deafMark, Cond.instanceMethod yX8_deafMark] : List Cond) ++ ([] : List Cond)))))
def wsX8_ask : List Cond := .code yX8_ask cX8_ask 4 (some .int) :: (wsX8_ask_o ++ (wsX80 ++ (wsX8_isGuard ++ (wsX8_in ++ (wsX8_kindIn ++ (wsX8_deafSize ++ (wsX8_keenSize ++ (wsX8_deafMark ++ (wsX8_keenMark ++ ([] : List Cond))))))))))
set_option maxRecDepth 100000 in
theorem itX8_ask_o : ∀ w ∈ wsX8_ask_o, w ∈ lw_tbl := List.forall_mem_append.mpr ⟨fun w h => ch_0 w (mem_r (big := k2_sels lw_privs) _ [53, 49, 61, 62, 63, 64, 65] (by decide +kernel) w h), List.forall_mem_append.mpr ⟨fun w h => ch_1 w (mem_r (big := tables_1_1) _ [9] (by decide +kernel) w h), List.forall_mem_append.mpr ⟨fun w h => ch_4 w (mem_r (big := tables_1_4) _ [132, 73, 64, 129, 130, 72] (by decide +kernel) w h), List.forall_mem_append.mpr ⟨fun w h => ch_5 w (mem_r (big := tables_1_5) _ [59, 61, 35, 37, 201, 203, 205, 209, 211, 213, 215, 217, 219] (by decide +kernel) w h), fun _ h => absurd h List.not_mem_nil⟩⟩⟩⟩
set_option maxRecDepth 100000 in
theorem itX8_ask : ∀ w ∈ wsX8_ask, w ∈ lw_tbl := List.forall_mem_cons.mpr ⟨ch_5 _ (List.mem_of_getElem? (l := tables_1_5) (i := 200) (by decide +kernel)), List.forall_mem_append.mpr ⟨itX8_ask_o, List.forall_mem_append.mpr ⟨itX80, List.forall_mem_append.mpr ⟨itX8_isGuard, List.forall_mem_append.mpr ⟨itX8_in, List.forall_mem_append.mpr ⟨itX8_kindIn, List.forall_mem_append.mpr ⟨itX8_deafSize, List.forall_mem_append.mpr ⟨itX8_keenSize, List.forall_mem_append.mpr ⟨itX8_deafMark, List.forall_mem_append.mpr ⟨itX8_keenMark, fun _ h => absurd h List.not_mem_nil⟩⟩⟩⟩⟩⟩⟩⟩⟩⟩
set_option maxRecDepth 100000 in
theorem gdX8_ask_o : ∀ w ∈ wsX8_ask_o, goodWord w = true := gd_o (by decide +kernel)
set_option maxRecDepth 100000 in
theorem gdX8_ask : ∀ w ∈ wsX8_ask, goodWord w = true := List.forall_mem_cons.mpr ⟨by decide +kernel, List.forall_mem_append.mpr ⟨gdX8_ask_o, List.forall_mem_append.mpr ⟨gdX80, List.forall_mem_append.mpr ⟨gdX8_isGuard, List.forall_mem_append.mpr ⟨gdX8_in, List.forall_mem_append.mpr ⟨gdX8_kindIn, List.forall_mem_append.mpr ⟨gdX8_deafSize, List.forall_mem_append.mpr ⟨gdX8_keenSize, List.forall_mem_append.mpr ⟨gdX8_deafMark, List.forall_mem_append.mpr ⟨gdX8_keenMark, fun _ h => absurd h List.not_mem_nil⟩⟩⟩⟩⟩⟩⟩⟩⟩⟩
def wsX8_trace_o : List Cond := (([Cond.initialized RX8] : List Cond) ++ (([Cond.fieldLink RX8 237 "WrongWordModel" "traced" "I", Cond.fieldLink RX8 47 "WrongWordModel" "trace" "[I", Cond.constant RX8 50 (-1000000), Cond.methodLink RX8 56 yX8_in, Cond.static yX8_in] : List Cond) ++ ([] : List Cond)))
def wsX8_trace : List Cond := .code yX8_trace cX8_trace 2 (some .int) :: (wsX8_trace_o ++ (wsX80 ++ (wsX8_in ++ ([] : List Cond))))
set_option maxRecDepth 100000 in
theorem itX8_trace_o : ∀ w ∈ wsX8_trace_o, w ∈ lw_tbl := List.forall_mem_append.mpr ⟨fun w h => ch_1 w (mem_r (big := tables_1_1) _ [9] (by decide +kernel) w h), List.forall_mem_append.mpr ⟨fun w h => ch_4 w (mem_r (big := tables_1_4) _ [73, 72, 50, 129, 130] (by decide +kernel) w h), fun _ h => absurd h List.not_mem_nil⟩⟩
set_option maxRecDepth 100000 in
theorem itX8_trace : ∀ w ∈ wsX8_trace, w ∈ lw_tbl := List.forall_mem_cons.mpr ⟨ch_5 _ (List.mem_of_getElem? (l := tables_1_5) (i := 224) (by decide +kernel)), List.forall_mem_append.mpr ⟨itX8_trace_o, List.forall_mem_append.mpr ⟨itX80, List.forall_mem_append.mpr ⟨itX8_in, fun _ h => absurd h List.not_mem_nil⟩⟩⟩⟩
set_option maxRecDepth 100000 in
theorem gdX8_trace_o : ∀ w ∈ wsX8_trace_o, goodWord w = true := gd_o (by decide +kernel)
set_option maxRecDepth 100000 in
theorem gdX8_trace : ∀ w ∈ wsX8_trace, goodWord w = true := List.forall_mem_cons.mpr ⟨by decide +kernel, List.forall_mem_append.mpr ⟨gdX8_trace_o, List.forall_mem_append.mpr ⟨gdX80, List.forall_mem_append.mpr ⟨gdX8_in, fun _ h => absurd h List.not_mem_nil⟩⟩⟩⟩
def wsX8_count_o : List Cond := (([Cond.selects RX8 yX8_isMissing yX8_isMissing] : List Cond) ++ (([Cond.initialized RX8] : List Cond) ++ (([Cond.fieldLink RX8 25 "WrongWordModel" "now" "[I", Cond.fieldLink RX8 149 "WrongWordModel" "acts" "I", Cond.fieldLink RX8 82 "WrongWordModel" "taped" "I", Cond.constant RX8 64 (-1000001), Cond.methodLink RX8 72 yX8_isMissing, Cond.instanceMethod yX8_isMissing, Cond.fieldLink RX8 7 "WrongWordModel" "lane" "[I", Cond.constant RX8 50 (-1000000)] : List Cond) ++ ([] : List Cond))))
def wsX8_count : List Cond := .code yX8_count cX8_count 4 (some .int) :: (wsX8_count_o ++ (wsX80 ++ (wsX8_isMissing ++ ([] : List Cond))))
set_option maxRecDepth 100000 in
theorem itX8_count_o : ∀ w ∈ wsX8_count_o, w ∈ lw_tbl := List.forall_mem_append.mpr ⟨fun w h => ch_0 w (mem_r (big := k2_sels lw_privs) _ [29] (by decide +kernel) w h), List.forall_mem_append.mpr ⟨fun w h => ch_1 w (mem_r (big := tables_1_1) _ [9] (by decide +kernel) w h), List.forall_mem_append.mpr ⟨fun w h => ch_4 w (mem_r (big := tables_1_4) _ [64, 68, 57, 132, 146, 148, 51, 50] (by decide +kernel) w h), fun _ h => absurd h List.not_mem_nil⟩⟩⟩
set_option maxRecDepth 100000 in
theorem itX8_count : ∀ w ∈ wsX8_count, w ∈ lw_tbl := List.forall_mem_cons.mpr ⟨ch_5 _ (List.mem_of_getElem? (l := tables_1_5) (i := 228) (by decide +kernel)), List.forall_mem_append.mpr ⟨itX8_count_o, List.forall_mem_append.mpr ⟨itX80, List.forall_mem_append.mpr ⟨itX8_isMissing, fun _ h => absurd h List.not_mem_nil⟩⟩⟩⟩
set_option maxRecDepth 100000 in
theorem gdX8_count_o : ∀ w ∈ wsX8_count_o, goodWord w = true := gd_o (by decide +kernel)
set_option maxRecDepth 100000 in
theorem gdX8_count : ∀ w ∈ wsX8_count, goodWord w = true := List.forall_mem_cons.mpr ⟨by decide +kernel, List.forall_mem_append.mpr ⟨gdX8_count_o, List.forall_mem_append.mpr ⟨gdX80, List.forall_mem_append.mpr ⟨gdX8_isMissing, fun _ h => absurd h List.not_mem_nil⟩⟩⟩⟩
def wsX8_status_o : List Cond := (([Cond.fieldLink RX8 51 "WrongWordModel" "status" "I"] : List Cond) ++ ([] : List Cond))
def wsX8_status : List Cond := .code yX8_status cX8_status 1 (some .int) :: (wsX8_status_o ++ (wsX80 ++ ([] : List Cond)))
set_option maxRecDepth 100000 in
theorem itX8_status_o : ∀ w ∈ wsX8_status_o, w ∈ lw_tbl := List.forall_mem_append.mpr ⟨fun w h => ch_4 w (mem_r (big := tables_1_4) _ [55] (by decide +kernel) w h), fun _ h => absurd h List.not_mem_nil⟩
set_option maxRecDepth 100000 in
theorem itX8_status : ∀ w ∈ wsX8_status, w ∈ lw_tbl := List.forall_mem_cons.mpr ⟨ch_5 _ (List.mem_of_getElem? (l := tables_1_5) (i := 232) (by decide +kernel)), List.forall_mem_append.mpr ⟨itX8_status_o, List.forall_mem_append.mpr ⟨itX80, fun _ h => absurd h List.not_mem_nil⟩⟩⟩
set_option maxRecDepth 100000 in
theorem gdX8_status_o : ∀ w ∈ wsX8_status_o, goodWord w = true := gd_o (by decide +kernel)
set_option maxRecDepth 100000 in
theorem gdX8_status : ∀ w ∈ wsX8_status, goodWord w = true := List.forall_mem_cons.mpr ⟨by decide +kernel, List.forall_mem_append.mpr ⟨gdX8_status_o, List.forall_mem_append.mpr ⟨gdX80, fun _ h => absurd h List.not_mem_nil⟩⟩⟩
def wsJ9_max_7cf53_o : List Cond := ([] : List Cond)
def wsJ9_max_7cf53 : List Cond := .code yJ9_max_7cf53 cJ9_max_7cf53 2 (some .int) :: (wsJ9_max_7cf53_o ++ ([] : List Cond))
set_option maxRecDepth 100000 in
theorem itJ9_max_7cf53_o : ∀ w ∈ wsJ9_max_7cf53_o, w ∈ lw_tbl := fun _ h => absurd h List.not_mem_nil
set_option maxRecDepth 100000 in
theorem itJ9_max_7cf53 : ∀ w ∈ wsJ9_max_7cf53, w ∈ lw_tbl := List.forall_mem_cons.mpr ⟨ch_3 _ (List.mem_of_getElem? (l := tables_1_3) (i := 118) (by decide +kernel)), List.forall_mem_append.mpr ⟨itJ9_max_7cf53_o, fun _ h => absurd h List.not_mem_nil⟩⟩
set_option maxRecDepth 100000 in
theorem gdJ9_max_7cf53_o : ∀ w ∈ wsJ9_max_7cf53_o, goodWord w = true := gd_o (by decide +kernel)
set_option maxRecDepth 100000 in
theorem gdJ9_max_7cf53 : ∀ w ∈ wsJ9_max_7cf53, goodWord w = true := List.forall_mem_cons.mpr ⟨by decide +kernel, List.forall_mem_append.mpr ⟨gdJ9_max_7cf53_o, fun _ h => absurd h List.not_mem_nil⟩⟩
def wsJ9_min_7cf53_o : List Cond := ([] : List Cond)
def wsJ9_min_7cf53 : List Cond := .code yJ9_min_7cf53 cJ9_min_7cf53 2 (some .int) :: (wsJ9_min_7cf53_o ++ ([] : List Cond))
set_option maxRecDepth 100000 in
theorem itJ9_min_7cf53_o : ∀ w ∈ wsJ9_min_7cf53_o, w ∈ lw_tbl := fun _ h => absurd h List.not_mem_nil
set_option maxRecDepth 100000 in
theorem itJ9_min_7cf53 : ∀ w ∈ wsJ9_min_7cf53, w ∈ lw_tbl := List.forall_mem_cons.mpr ⟨ch_2 _ (List.mem_of_getElem? (l := tables_1_2) (i := 173) (by decide +kernel)), List.forall_mem_append.mpr ⟨itJ9_min_7cf53_o, fun _ h => absurd h List.not_mem_nil⟩⟩
set_option maxRecDepth 100000 in
theorem gdJ9_min_7cf53_o : ∀ w ∈ wsJ9_min_7cf53_o, goodWord w = true := gd_o (by decide +kernel)
set_option maxRecDepth 100000 in
theorem gdJ9_min_7cf53 : ∀ w ∈ wsJ9_min_7cf53, goodWord w = true := List.forall_mem_cons.mpr ⟨by decide +kernel, List.forall_mem_append.mpr ⟨gdJ9_min_7cf53_o, fun _ h => absurd h List.not_mem_nil⟩⟩
theorem ggX0_init_X4_init : GoodIn wsX0_init wsX4_init := fun w h => ⟨List.mem_cons_of_mem _ (List.mem_append_right _ (List.mem_append_right _ (List.mem_append_right _ (List.mem_append_left _ h)))), good_of_word (gdX4_init w h)⟩
set_option maxRecDepth 20000 in
theorem gX0_init_X4_init_n17 : GoodIn wsX0_init (wsX4_init) := ggX0_init_X4_init
def tb_X0_init_1 : List (Nat × Instr × Nat) := [(0, .aload_n 0, 1), (1, .invokespecial 3, 3), (4, .aload_n 0, 1), (5, .bipush 24, 2), (7, .anewarray 9, 3), (10, .putfield 11, 3), (13, .iconst 0, 1), (14, .istore_n 1, 1), (15, .iload_n 1, 1), (16, .bipush 24, 2), (18, .if_icmp .ge 22, 3), (21, .aload_n 0, 1), (22, .getfield 11, 3), (25, .iload_n 1, 1), (26, .new 9, 3), (29, .dup, 1), (30, .invokespecial 17, 3), (33, .aastore, 1), (34, .iinc 1 1, 3), (37, .goto (-22), 3), (40, .return_, 1)]
set_option maxRecDepth 100000 in
theorem tk_X0_init_1 : (tb_X0_init_1.all fun q => decide (decode cX0_init q.1 = .ok q.2)) = true := by decide +kernel
theorem dX0_init_0 : decode cX0_init 0 = .ok (.aload_n 0, 1) := tb_d tk_X0_init_1 0 (0, .aload_n 0, 1) rfl
theorem dX0_init_1 : decode cX0_init 1 = .ok (.invokespecial 3, 3) := tb_d tk_X0_init_1 1 (1, .invokespecial 3, 3) rfl
theorem dX0_init_4 : decode cX0_init 4 = .ok (.aload_n 0, 1) := tb_d tk_X0_init_1 2 (4, .aload_n 0, 1) rfl
theorem dX0_init_5 : decode cX0_init 5 = .ok (.bipush 24, 2) := tb_d tk_X0_init_1 3 (5, .bipush 24, 2) rfl
theorem dX0_init_7 : decode cX0_init 7 = .ok (.anewarray 9, 3) := tb_d tk_X0_init_1 4 (7, .anewarray 9, 3) rfl
theorem dX0_init_10 : decode cX0_init 10 = .ok (.putfield 11, 3) := tb_d tk_X0_init_1 5 (10, .putfield 11, 3) rfl
theorem dX0_init_13 : decode cX0_init 13 = .ok (.iconst 0, 1) := tb_d tk_X0_init_1 6 (13, .iconst 0, 1) rfl
theorem dX0_init_14 : decode cX0_init 14 = .ok (.istore_n 1, 1) := tb_d tk_X0_init_1 7 (14, .istore_n 1, 1) rfl
theorem dX0_init_15 : decode cX0_init 15 = .ok (.iload_n 1, 1) := tb_d tk_X0_init_1 8 (15, .iload_n 1, 1) rfl
theorem dX0_init_16 : decode cX0_init 16 = .ok (.bipush 24, 2) := tb_d tk_X0_init_1 9 (16, .bipush 24, 2) rfl
theorem dX0_init_18 : decode cX0_init 18 = .ok (.if_icmp .ge 22, 3) := tb_d tk_X0_init_1 10 (18, .if_icmp .ge 22, 3) rfl
theorem dX0_init_21 : decode cX0_init 21 = .ok (.aload_n 0, 1) := tb_d tk_X0_init_1 11 (21, .aload_n 0, 1) rfl
theorem dX0_init_22 : decode cX0_init 22 = .ok (.getfield 11, 3) := tb_d tk_X0_init_1 12 (22, .getfield 11, 3) rfl
theorem dX0_init_25 : decode cX0_init 25 = .ok (.iload_n 1, 1) := tb_d tk_X0_init_1 13 (25, .iload_n 1, 1) rfl
theorem dX0_init_26 : decode cX0_init 26 = .ok (.new 9, 3) := tb_d tk_X0_init_1 14 (26, .new 9, 3) rfl
theorem dX0_init_29 : decode cX0_init 29 = .ok (.dup, 1) := tb_d tk_X0_init_1 15 (29, .dup, 1) rfl
theorem dX0_init_30 : decode cX0_init 30 = .ok (.invokespecial 17, 3) := tb_d tk_X0_init_1 16 (30, .invokespecial 17, 3) rfl
theorem dX0_init_33 : decode cX0_init 33 = .ok (.aastore, 1) := tb_d tk_X0_init_1 17 (33, .aastore, 1) rfl
theorem dX0_init_34 : decode cX0_init 34 = .ok (.iinc 1 1, 3) := tb_d tk_X0_init_1 18 (34, .iinc 1 1, 3) rfl
theorem dX0_init_37 : decode cX0_init 37 = .ok (.goto (-22), 3) := tb_d tk_X0_init_1 19 (37, .goto (-22), 3) rfl
theorem dX0_init_40 : decode cX0_init 40 = .ok (.return_, 1) := tb_d tk_X0_init_1 20 (40, .return_, 1) rfl
def tb_X0_forget_1 : List (Nat × Instr × Nat) := [(0, .aload_n 0, 1), (1, .iconst 0, 1), (2, .putfield 18, 3), (5, .return_, 1)]
set_option maxRecDepth 100000 in
theorem tk_X0_forget_1 : (tb_X0_forget_1.all fun q => decide (decode cX0_forget q.1 = .ok q.2)) = true := by decide +kernel
theorem dX0_forget_0 : decode cX0_forget 0 = .ok (.aload_n 0, 1) := tb_d tk_X0_forget_1 0 (0, .aload_n 0, 1) rfl
theorem dX0_forget_1 : decode cX0_forget 1 = .ok (.iconst 0, 1) := tb_d tk_X0_forget_1 1 (1, .iconst 0, 1) rfl
theorem dX0_forget_2 : decode cX0_forget 2 = .ok (.putfield 18, 3) := tb_d tk_X0_forget_1 2 (2, .putfield 18, 3) rfl
theorem dX0_forget_5 : decode cX0_forget 5 = .ok (.return_, 1) := tb_d tk_X0_forget_1 3 (5, .return_, 1) rfl
theorem ggX0_keep_X4_become : GoodIn wsX0_keep wsX4_become := fun w h => ⟨List.mem_cons_of_mem _ (List.mem_append_right _ (List.mem_append_right _ (List.mem_append_right _ (List.mem_append_left _ h)))), good_of_word (gdX4_become w h)⟩
set_option maxRecDepth 20000 in
theorem gX0_keep_X4_become : GoodIn wsX0_keep (wsV RX0 25 RX4 yX4_become wsX4_become) := goodIn_app (goodIn_of _ (by decide +kernel)) ggX0_keep_X4_become
def tb_X0_keep_1 : List (Nat × Instr × Nat) := [(0, .aload_n 0, 1), (1, .getfield 11, 3), (4, .aload_n 0, 1), (5, .getfield 22, 3), (8, .aaload, 1), (9, .aload_n 1, 1), (10, .invokevirtual 25, 3), (13, .aload_n 0, 1), (14, .aload_n 0, 1), (15, .getfield 22, 3), (18, .iconst 1, 1), (19, .iadd, 1), (20, .bipush 24, 2), (22, .if_icmp .ge 12, 3), (25, .aload_n 0, 1), (26, .getfield 22, 3), (29, .iconst 1, 1), (30, .iadd, 1), (31, .goto 4, 3), (34, .iconst 0, 1), (35, .putfield 22, 3), (38, .aload_n 0, 1), (39, .aload_n 0, 1), (40, .getfield 18, 3), (43, .iconst 1, 1), (44, .iadd, 1), (45, .bipush 24, 2), (47, .invokestatic 29, 3), (50, .putfield 18, 3), (53, .return_, 1)]
set_option maxRecDepth 100000 in
theorem tk_X0_keep_1 : (tb_X0_keep_1.all fun q => decide (decode cX0_keep q.1 = .ok q.2)) = true := by decide +kernel
theorem dX0_keep_0 : decode cX0_keep 0 = .ok (.aload_n 0, 1) := tb_d tk_X0_keep_1 0 (0, .aload_n 0, 1) rfl
theorem dX0_keep_1 : decode cX0_keep 1 = .ok (.getfield 11, 3) := tb_d tk_X0_keep_1 1 (1, .getfield 11, 3) rfl
theorem dX0_keep_4 : decode cX0_keep 4 = .ok (.aload_n 0, 1) := tb_d tk_X0_keep_1 2 (4, .aload_n 0, 1) rfl
theorem dX0_keep_5 : decode cX0_keep 5 = .ok (.getfield 22, 3) := tb_d tk_X0_keep_1 3 (5, .getfield 22, 3) rfl
theorem dX0_keep_8 : decode cX0_keep 8 = .ok (.aaload, 1) := tb_d tk_X0_keep_1 4 (8, .aaload, 1) rfl
theorem dX0_keep_9 : decode cX0_keep 9 = .ok (.aload_n 1, 1) := tb_d tk_X0_keep_1 5 (9, .aload_n 1, 1) rfl
theorem dX0_keep_10 : decode cX0_keep 10 = .ok (.invokevirtual 25, 3) := tb_d tk_X0_keep_1 6 (10, .invokevirtual 25, 3) rfl
theorem dX0_keep_13 : decode cX0_keep 13 = .ok (.aload_n 0, 1) := tb_d tk_X0_keep_1 7 (13, .aload_n 0, 1) rfl
theorem dX0_keep_14 : decode cX0_keep 14 = .ok (.aload_n 0, 1) := tb_d tk_X0_keep_1 8 (14, .aload_n 0, 1) rfl
theorem dX0_keep_15 : decode cX0_keep 15 = .ok (.getfield 22, 3) := tb_d tk_X0_keep_1 9 (15, .getfield 22, 3) rfl
theorem dX0_keep_18 : decode cX0_keep 18 = .ok (.iconst 1, 1) := tb_d tk_X0_keep_1 10 (18, .iconst 1, 1) rfl
theorem dX0_keep_19 : decode cX0_keep 19 = .ok (.iadd, 1) := tb_d tk_X0_keep_1 11 (19, .iadd, 1) rfl
theorem dX0_keep_20 : decode cX0_keep 20 = .ok (.bipush 24, 2) := tb_d tk_X0_keep_1 12 (20, .bipush 24, 2) rfl
theorem dX0_keep_22 : decode cX0_keep 22 = .ok (.if_icmp .ge 12, 3) := tb_d tk_X0_keep_1 13 (22, .if_icmp .ge 12, 3) rfl
theorem dX0_keep_25 : decode cX0_keep 25 = .ok (.aload_n 0, 1) := tb_d tk_X0_keep_1 14 (25, .aload_n 0, 1) rfl
theorem dX0_keep_26 : decode cX0_keep 26 = .ok (.getfield 22, 3) := tb_d tk_X0_keep_1 15 (26, .getfield 22, 3) rfl
theorem dX0_keep_29 : decode cX0_keep 29 = .ok (.iconst 1, 1) := tb_d tk_X0_keep_1 16 (29, .iconst 1, 1) rfl
theorem dX0_keep_30 : decode cX0_keep 30 = .ok (.iadd, 1) := tb_d tk_X0_keep_1 17 (30, .iadd, 1) rfl
theorem dX0_keep_31 : decode cX0_keep 31 = .ok (.goto 4, 3) := tb_d tk_X0_keep_1 18 (31, .goto 4, 3) rfl
theorem dX0_keep_34 : decode cX0_keep 34 = .ok (.iconst 0, 1) := tb_d tk_X0_keep_1 19 (34, .iconst 0, 1) rfl
theorem dX0_keep_35 : decode cX0_keep 35 = .ok (.putfield 22, 3) := tb_d tk_X0_keep_1 20 (35, .putfield 22, 3) rfl
theorem dX0_keep_38 : decode cX0_keep 38 = .ok (.aload_n 0, 1) := tb_d tk_X0_keep_1 21 (38, .aload_n 0, 1) rfl
theorem dX0_keep_39 : decode cX0_keep 39 = .ok (.aload_n 0, 1) := tb_d tk_X0_keep_1 22 (39, .aload_n 0, 1) rfl
theorem dX0_keep_40 : decode cX0_keep 40 = .ok (.getfield 18, 3) := tb_d tk_X0_keep_1 23 (40, .getfield 18, 3) rfl
theorem dX0_keep_43 : decode cX0_keep 43 = .ok (.iconst 1, 1) := tb_d tk_X0_keep_1 24 (43, .iconst 1, 1) rfl
theorem dX0_keep_44 : decode cX0_keep 44 = .ok (.iadd, 1) := tb_d tk_X0_keep_1 25 (44, .iadd, 1) rfl
theorem dX0_keep_45 : decode cX0_keep 45 = .ok (.bipush 24, 2) := tb_d tk_X0_keep_1 26 (45, .bipush 24, 2) rfl
theorem dX0_keep_47 : decode cX0_keep 47 = .ok (.invokestatic 29, 3) := tb_d tk_X0_keep_1 27 (47, .invokestatic 29, 3) rfl
theorem dX0_keep_50 : decode cX0_keep 50 = .ok (.putfield 18, 3) := tb_d tk_X0_keep_1 28 (50, .putfield 18, 3) rfl
theorem dX0_keep_53 : decode cX0_keep 53 = .ok (.return_, 1) := tb_d tk_X0_keep_1 29 (53, .return_, 1) rfl
theorem ggX0_takeBack_X4_become : GoodIn wsX0_takeBack wsX4_become := fun w h => ⟨List.mem_cons_of_mem _ (List.mem_append_right _ (List.mem_append_right _ (List.mem_append_right _ (List.mem_append_left _ h)))), good_of_word (gdX4_become w h)⟩
set_option maxRecDepth 20000 in
theorem gX0_takeBack_X4_become : GoodIn wsX0_takeBack (wsV RX0 25 RX4 yX4_become wsX4_become) := goodIn_app (goodIn_of _ (by decide +kernel)) ggX0_takeBack_X4_become
def tb_X0_takeBack_1 : List (Nat × Instr × Nat) := [(0, .aload_n 0, 1), (1, .getfield 18, 3), (4, .ifCond .ne 5, 3), (7, .iconst 0, 1), (8, .ireturn, 1), (9, .aload_n 0, 1), (10, .aload_n 0, 1), (11, .getfield 22, 3), (14, .ifCond .le 12, 3), (17, .aload_n 0, 1), (18, .getfield 22, 3), (21, .iconst 1, 1), (22, .isub, 1), (23, .goto 5, 3), (26, .bipush 23, 2), (28, .putfield 22, 3), (31, .aload_n 0, 1), (32, .dup, 1), (33, .getfield 18, 3), (36, .iconst 1, 1), (37, .isub, 1), (38, .putfield 18, 3), (41, .aload_n 1, 1), (42, .aload_n 0, 1), (43, .getfield 11, 3), (46, .aload_n 0, 1), (47, .getfield 22, 3), (50, .aaload, 1), (51, .invokevirtual 25, 3), (54, .iconst 1, 1), (55, .ireturn, 1)]
set_option maxRecDepth 100000 in
theorem tk_X0_takeBack_1 : (tb_X0_takeBack_1.all fun q => decide (decode cX0_takeBack q.1 = .ok q.2)) = true := by decide +kernel
theorem dX0_takeBack_0 : decode cX0_takeBack 0 = .ok (.aload_n 0, 1) := tb_d tk_X0_takeBack_1 0 (0, .aload_n 0, 1) rfl
theorem dX0_takeBack_1 : decode cX0_takeBack 1 = .ok (.getfield 18, 3) := tb_d tk_X0_takeBack_1 1 (1, .getfield 18, 3) rfl
theorem dX0_takeBack_4 : decode cX0_takeBack 4 = .ok (.ifCond .ne 5, 3) := tb_d tk_X0_takeBack_1 2 (4, .ifCond .ne 5, 3) rfl
theorem dX0_takeBack_7 : decode cX0_takeBack 7 = .ok (.iconst 0, 1) := tb_d tk_X0_takeBack_1 3 (7, .iconst 0, 1) rfl
theorem dX0_takeBack_8 : decode cX0_takeBack 8 = .ok (.ireturn, 1) := tb_d tk_X0_takeBack_1 4 (8, .ireturn, 1) rfl
theorem dX0_takeBack_9 : decode cX0_takeBack 9 = .ok (.aload_n 0, 1) := tb_d tk_X0_takeBack_1 5 (9, .aload_n 0, 1) rfl
theorem dX0_takeBack_10 : decode cX0_takeBack 10 = .ok (.aload_n 0, 1) := tb_d tk_X0_takeBack_1 6 (10, .aload_n 0, 1) rfl
theorem dX0_takeBack_11 : decode cX0_takeBack 11 = .ok (.getfield 22, 3) := tb_d tk_X0_takeBack_1 7 (11, .getfield 22, 3) rfl
theorem dX0_takeBack_14 : decode cX0_takeBack 14 = .ok (.ifCond .le 12, 3) := tb_d tk_X0_takeBack_1 8 (14, .ifCond .le 12, 3) rfl
theorem dX0_takeBack_17 : decode cX0_takeBack 17 = .ok (.aload_n 0, 1) := tb_d tk_X0_takeBack_1 9 (17, .aload_n 0, 1) rfl
theorem dX0_takeBack_18 : decode cX0_takeBack 18 = .ok (.getfield 22, 3) := tb_d tk_X0_takeBack_1 10 (18, .getfield 22, 3) rfl
theorem dX0_takeBack_21 : decode cX0_takeBack 21 = .ok (.iconst 1, 1) := tb_d tk_X0_takeBack_1 11 (21, .iconst 1, 1) rfl
theorem dX0_takeBack_22 : decode cX0_takeBack 22 = .ok (.isub, 1) := tb_d tk_X0_takeBack_1 12 (22, .isub, 1) rfl
theorem dX0_takeBack_23 : decode cX0_takeBack 23 = .ok (.goto 5, 3) := tb_d tk_X0_takeBack_1 13 (23, .goto 5, 3) rfl
theorem dX0_takeBack_26 : decode cX0_takeBack 26 = .ok (.bipush 23, 2) := tb_d tk_X0_takeBack_1 14 (26, .bipush 23, 2) rfl
theorem dX0_takeBack_28 : decode cX0_takeBack 28 = .ok (.putfield 22, 3) := tb_d tk_X0_takeBack_1 15 (28, .putfield 22, 3) rfl
theorem dX0_takeBack_31 : decode cX0_takeBack 31 = .ok (.aload_n 0, 1) := tb_d tk_X0_takeBack_1 16 (31, .aload_n 0, 1) rfl
theorem dX0_takeBack_32 : decode cX0_takeBack 32 = .ok (.dup, 1) := tb_d tk_X0_takeBack_1 17 (32, .dup, 1) rfl
theorem dX0_takeBack_33 : decode cX0_takeBack 33 = .ok (.getfield 18, 3) := tb_d tk_X0_takeBack_1 18 (33, .getfield 18, 3) rfl
theorem dX0_takeBack_36 : decode cX0_takeBack 36 = .ok (.iconst 1, 1) := tb_d tk_X0_takeBack_1 19 (36, .iconst 1, 1) rfl
theorem dX0_takeBack_37 : decode cX0_takeBack 37 = .ok (.isub, 1) := tb_d tk_X0_takeBack_1 20 (37, .isub, 1) rfl
theorem dX0_takeBack_38 : decode cX0_takeBack 38 = .ok (.putfield 18, 3) := tb_d tk_X0_takeBack_1 21 (38, .putfield 18, 3) rfl
theorem dX0_takeBack_41 : decode cX0_takeBack 41 = .ok (.aload_n 1, 1) := tb_d tk_X0_takeBack_1 22 (41, .aload_n 1, 1) rfl
theorem dX0_takeBack_42 : decode cX0_takeBack 42 = .ok (.aload_n 0, 1) := tb_d tk_X0_takeBack_1 23 (42, .aload_n 0, 1) rfl
theorem dX0_takeBack_43 : decode cX0_takeBack 43 = .ok (.getfield 11, 3) := tb_d tk_X0_takeBack_1 24 (43, .getfield 11, 3) rfl
theorem dX0_takeBack_46 : decode cX0_takeBack 46 = .ok (.aload_n 0, 1) := tb_d tk_X0_takeBack_1 25 (46, .aload_n 0, 1) rfl
theorem dX0_takeBack_47 : decode cX0_takeBack 47 = .ok (.getfield 22, 3) := tb_d tk_X0_takeBack_1 26 (47, .getfield 22, 3) rfl
theorem dX0_takeBack_50 : decode cX0_takeBack 50 = .ok (.aaload, 1) := tb_d tk_X0_takeBack_1 27 (50, .aaload, 1) rfl
theorem dX0_takeBack_51 : decode cX0_takeBack 51 = .ok (.invokevirtual 25, 3) := tb_d tk_X0_takeBack_1 28 (51, .invokevirtual 25, 3) rfl
theorem dX0_takeBack_54 : decode cX0_takeBack 54 = .ok (.iconst 1, 1) := tb_d tk_X0_takeBack_1 29 (54, .iconst 1, 1) rfl
theorem dX0_takeBack_55 : decode cX0_takeBack 55 = .ok (.ireturn, 1) := tb_d tk_X0_takeBack_1 30 (55, .ireturn, 1) rfl
def tb_X1_init_1 : List (Nat × Instr × Nat) := [(0, .aload_n 0, 1), (1, .invokespecial 3, 3), (4, .aload_n 0, 1), (5, .bipush 16, 2), (7, .newarray .int, 2), (9, .putfield 11, 3), (12, .return_, 1)]
set_option maxRecDepth 100000 in
theorem tk_X1_init_1 : (tb_X1_init_1.all fun q => decide (decode cX1_init q.1 = .ok q.2)) = true := by decide +kernel
theorem dX1_init_0 : decode cX1_init 0 = .ok (.aload_n 0, 1) := tb_d tk_X1_init_1 0 (0, .aload_n 0, 1) rfl
theorem dX1_init_1 : decode cX1_init 1 = .ok (.invokespecial 3, 3) := tb_d tk_X1_init_1 1 (1, .invokespecial 3, 3) rfl
theorem dX1_init_4 : decode cX1_init 4 = .ok (.aload_n 0, 1) := tb_d tk_X1_init_1 2 (4, .aload_n 0, 1) rfl
theorem dX1_init_5 : decode cX1_init 5 = .ok (.bipush 16, 2) := tb_d tk_X1_init_1 3 (5, .bipush 16, 2) rfl
theorem dX1_init_7 : decode cX1_init 7 = .ok (.newarray .int, 2) := tb_d tk_X1_init_1 4 (7, .newarray .int, 2) rfl
theorem dX1_init_9 : decode cX1_init 9 = .ok (.putfield 11, 3) := tb_d tk_X1_init_1 5 (9, .putfield 11, 3) rfl
theorem dX1_init_12 : decode cX1_init 12 = .ok (.return_, 1) := tb_d tk_X1_init_1 6 (12, .return_, 1) rfl
def tb_X1_isA_1 : List (Nat × Instr × Nat) := [(0, .iload_n 0, 1), (1, .istore_n 2, 1), (2, .iconst 0, 1), (3, .istore_n 3, 1), (4, .iload_n 3, 1), (5, .iconst 5, 1), (6, .if_icmp .gt 31, 3), (9, .iload_n 2, 1), (10, .ifCond .lt 27, 3), (13, .iload_n 2, 1), (14, .iconst 5, 1), (15, .if_icmp .gt 22, 3), (18, .iload_n 2, 1), (19, .iload_n 1, 1), (20, .if_icmp .ne 5, 3), (23, .iconst 1, 1), (24, .ireturn, 1), (25, .getstatic 15, 3), (28, .iload_n 2, 1), (29, .iaload, 1), (30, .istore_n 2, 1), (31, .iinc 3 1, 3), (34, .goto (-30), 3), (37, .iconst 0, 1), (38, .ireturn, 1)]
set_option maxRecDepth 100000 in
theorem tk_X1_isA_1 : (tb_X1_isA_1.all fun q => decide (decode cX1_isA q.1 = .ok q.2)) = true := by decide +kernel
theorem dX1_isA_0 : decode cX1_isA 0 = .ok (.iload_n 0, 1) := tb_d tk_X1_isA_1 0 (0, .iload_n 0, 1) rfl
theorem dX1_isA_1 : decode cX1_isA 1 = .ok (.istore_n 2, 1) := tb_d tk_X1_isA_1 1 (1, .istore_n 2, 1) rfl
theorem dX1_isA_2 : decode cX1_isA 2 = .ok (.iconst 0, 1) := tb_d tk_X1_isA_1 2 (2, .iconst 0, 1) rfl
theorem dX1_isA_3 : decode cX1_isA 3 = .ok (.istore_n 3, 1) := tb_d tk_X1_isA_1 3 (3, .istore_n 3, 1) rfl
theorem dX1_isA_4 : decode cX1_isA 4 = .ok (.iload_n 3, 1) := tb_d tk_X1_isA_1 4 (4, .iload_n 3, 1) rfl
theorem dX1_isA_5 : decode cX1_isA 5 = .ok (.iconst 5, 1) := tb_d tk_X1_isA_1 5 (5, .iconst 5, 1) rfl
theorem dX1_isA_6 : decode cX1_isA 6 = .ok (.if_icmp .gt 31, 3) := tb_d tk_X1_isA_1 6 (6, .if_icmp .gt 31, 3) rfl
theorem dX1_isA_9 : decode cX1_isA 9 = .ok (.iload_n 2, 1) := tb_d tk_X1_isA_1 7 (9, .iload_n 2, 1) rfl
theorem dX1_isA_10 : decode cX1_isA 10 = .ok (.ifCond .lt 27, 3) := tb_d tk_X1_isA_1 8 (10, .ifCond .lt 27, 3) rfl
theorem dX1_isA_13 : decode cX1_isA 13 = .ok (.iload_n 2, 1) := tb_d tk_X1_isA_1 9 (13, .iload_n 2, 1) rfl
theorem dX1_isA_14 : decode cX1_isA 14 = .ok (.iconst 5, 1) := tb_d tk_X1_isA_1 10 (14, .iconst 5, 1) rfl
theorem dX1_isA_15 : decode cX1_isA 15 = .ok (.if_icmp .gt 22, 3) := tb_d tk_X1_isA_1 11 (15, .if_icmp .gt 22, 3) rfl
theorem dX1_isA_18 : decode cX1_isA 18 = .ok (.iload_n 2, 1) := tb_d tk_X1_isA_1 12 (18, .iload_n 2, 1) rfl
theorem dX1_isA_19 : decode cX1_isA 19 = .ok (.iload_n 1, 1) := tb_d tk_X1_isA_1 13 (19, .iload_n 1, 1) rfl
theorem dX1_isA_20 : decode cX1_isA 20 = .ok (.if_icmp .ne 5, 3) := tb_d tk_X1_isA_1 14 (20, .if_icmp .ne 5, 3) rfl
theorem dX1_isA_23 : decode cX1_isA 23 = .ok (.iconst 1, 1) := tb_d tk_X1_isA_1 15 (23, .iconst 1, 1) rfl
theorem dX1_isA_24 : decode cX1_isA 24 = .ok (.ireturn, 1) := tb_d tk_X1_isA_1 16 (24, .ireturn, 1) rfl
theorem dX1_isA_25 : decode cX1_isA 25 = .ok (.getstatic 15, 3) := tb_d tk_X1_isA_1 17 (25, .getstatic 15, 3) rfl
theorem dX1_isA_28 : decode cX1_isA 28 = .ok (.iload_n 2, 1) := tb_d tk_X1_isA_1 18 (28, .iload_n 2, 1) rfl
theorem dX1_isA_29 : decode cX1_isA 29 = .ok (.iaload, 1) := tb_d tk_X1_isA_1 19 (29, .iaload, 1) rfl
theorem dX1_isA_30 : decode cX1_isA 30 = .ok (.istore_n 2, 1) := tb_d tk_X1_isA_1 20 (30, .istore_n 2, 1) rfl
theorem dX1_isA_31 : decode cX1_isA 31 = .ok (.iinc 3 1, 3) := tb_d tk_X1_isA_1 21 (31, .iinc 3 1, 3) rfl
theorem dX1_isA_34 : decode cX1_isA 34 = .ok (.goto (-30), 3) := tb_d tk_X1_isA_1 22 (34, .goto (-30), 3) rfl
theorem dX1_isA_37 : decode cX1_isA 37 = .ok (.iconst 0, 1) := tb_d tk_X1_isA_1 23 (37, .iconst 0, 1) rfl
theorem dX1_isA_38 : decode cX1_isA 38 = .ok (.ireturn, 1) := tb_d tk_X1_isA_1 24 (38, .ireturn, 1) rfl
def tb_X1_turnTo_1 : List (Nat × Instr × Nat) := [(0, .aload_n 0, 1), (1, .iload_n 1, 1), (2, .putfield 18, 3), (5, .aload_n 0, 1), (6, .iload_n 2, 1), (7, .putfield 22, 3), (10, .aload_n 0, 1), (11, .iload_n 3, 1), (12, .putfield 25, 3), (15, .aload_n 0, 1), (16, .iload 4, 2), (18, .putfield 28, 3), (21, .aload_n 0, 1), (22, .iconst 0, 1), (23, .putfield 31, 3), (26, .return_, 1)]
set_option maxRecDepth 100000 in
theorem tk_X1_turnTo_1 : (tb_X1_turnTo_1.all fun q => decide (decode cX1_turnTo q.1 = .ok q.2)) = true := by decide +kernel
theorem dX1_turnTo_0 : decode cX1_turnTo 0 = .ok (.aload_n 0, 1) := tb_d tk_X1_turnTo_1 0 (0, .aload_n 0, 1) rfl
