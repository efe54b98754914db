def wsX8_nights_o : List Cond := (([Cond.selects RX8 yX8_isGate yX8_isGate, Cond.selects RX8 yX8_notes yX8_notes, Cond.selects RX8 yX8_forgets yX8_forgets] : List Cond) ++ (([Cond.initialized RX8] : List Cond) ++ (([Cond.constant RX8 183 (-1000002), Cond.constant RX8 64 (-1000001), Cond.fieldLink RX8 25 "WrongWordModel" "now" "[I", Cond.constant RX8 85 (-1000003), Cond.methodLink RX8 180 yX8_isGate, Cond.instanceMethod yX8_isGate, Cond.methodLink RX8 56 yX8_in, Cond.static yX8_in, Cond.methodLink RX8 184 yX8_notes, Cond.fieldLink RX8 149 "WrongWordModel" "acts" "I", Cond.fieldLink RX8 34 "WrongWordModel" "past" "[I", Cond.methodLink RX8 145 yX8_copies] : List Cond) ++ (([Cond.instanceMethod yX8_notes, Cond.methodLink RX8 187 yX8_forgets, Cond.instanceMethod yX8_forgets, Cond.methodLink RX8 172 yX8_secretOf, Cond.static yX8_secretOf] : List Cond) ++ ([] : List Cond)))))
def wsX8_nights : List Cond := .code yX8_nights cX8_nights 3 (some .int) :: (wsX8_nights_o ++ (wsX80 ++ (wsX8_isGate ++ (wsX8_in ++ (wsX8_notes ++ (wsX8_forgets ++ (wsX8_secretOf ++ ([] : List Cond))))))))
set_option maxRecDepth 100000 in
theorem itX8_nights_o : ∀ w ∈ wsX8_nights_o, w ∈ lw_tbl := List.forall_mem_append.mpr ⟨fun w h => ch_0 w (mem_r (big := k2_sels lw_privs) _ [42, 43, 44] (by decide +kernel) w h), List.forall_mem_append.mpr ⟨fun w h => ch_1 w (mem_r (big := tables_1_1) _ [9] (by decide +kernel) w h), List.forall_mem_append.mpr ⟨fun w h => ch_4 w (mem_r (big := tables_1_4) _ [237, 132, 64, 169, 233, 235, 129, 130, 238, 68, 67, 222] (by decide +kernel) w h), List.forall_mem_append.mpr ⟨fun w h => ch_5 w (mem_r (big := tables_1_5) _ [0, 2, 4, 6, 7] (by decide +kernel) w h), fun _ h => absurd h List.not_mem_nil⟩⟩⟩⟩
set_option maxRecDepth 100000 in
theorem itX8_nights : ∀ w ∈ wsX8_nights, w ∈ lw_tbl := List.forall_mem_cons.mpr ⟨ch_4 _ (List.mem_of_getElem? (l := tables_1_4) (i := 232) (by decide +kernel)), List.forall_mem_append.mpr ⟨itX8_nights_o, List.forall_mem_append.mpr ⟨itX80, List.forall_mem_append.mpr ⟨itX8_isGate, List.forall_mem_append.mpr ⟨itX8_in, List.forall_mem_append.mpr ⟨itX8_notes, List.forall_mem_append.mpr ⟨itX8_forgets, List.forall_mem_append.mpr ⟨itX8_secretOf, fun _ h => absurd h List.not_mem_nil⟩⟩⟩⟩⟩⟩⟩⟩
set_option maxRecDepth 100000 in
theorem gdX8_nights_o : ∀ w ∈ wsX8_nights_o, goodWord w = true := gd_o (by decide +kernel)
set_option maxRecDepth 100000 in
theorem gdX8_nights : ∀ w ∈ wsX8_nights, goodWord w = true := List.forall_mem_cons.mpr ⟨by decide +kernel, List.forall_mem_append.mpr ⟨gdX8_nights_o, List.forall_mem_append.mpr ⟨gdX80, List.forall_mem_append.mpr ⟨gdX8_isGate, List.forall_mem_append.mpr ⟨gdX8_in, List.forall_mem_append.mpr ⟨gdX8_notes, List.forall_mem_append.mpr ⟨gdX8_forgets, List.forall_mem_append.mpr ⟨gdX8_secretOf, fun _ h => absurd h List.not_mem_nil⟩⟩⟩⟩⟩⟩⟩⟩
def wsX8_say_o : List Cond := (([Cond.selects RX8 yX8_isWord yX8_isWord, Cond.selects RX8 yX8_notes yX8_notes, Cond.selects RX8 yX8_guardOn yX8_guardOn, Cond.selects RX8 yX8_isTakenNow yX8_isTakenNow, Cond.selects RX8 yX8_isTaken yX8_isTaken, Cond.selects RX8 yX8_kindIn yX8_kindIn, Cond.selects RX8 yX8_takesBy yX8_takesBy, Cond.selects RX8 yX8_distance yX8_distance, Cond.selects RX8 yX8_lips yX8_lips] : List Cond) ++ (([Cond.initialized RX8] : List Cond) ++ (([Cond.constant RX8 64 (-1000001), Cond.fieldLink RX8 25 "WrongWordModel" "now" "[I", Cond.constant RX8 85 (-1000003), Cond.methodLink RX8 56 yX8_in, Cond.methodLink RX8 184 yX8_notes, Cond.fieldLink RX8 149 "WrongWordModel" "acts" "I", Cond.fieldLink RX8 34 "WrongWordModel" "past" "[I", Cond.methodLink RX8 145 yX8_copies] : List Cond) ++ (([Cond.methodLink RX8 190 yX8_isWord, Cond.instanceMethod yX8_isWord, Cond.methodLink RX8 193 yX8_isHour, Cond.static yX8_isHour, Cond.instanceMethod yX8_notes, Cond.methodLink RX8 158 yX8_guardOn, Cond.instanceMethod yX8_guardOn, Cond.methodLink RX8 196 yX8_isTakenNow, Cond.instanceMethod yX8_isTakenNow, Cond.methodLink RX8 172 yX8_secretOf, Cond.methodLink RX8 176 yX8_isTaken, Cond.methodLink RX8 161 yX8_has, Cond.static yX8_has, Cond.methodLink RX8 165 yX8_kindIn, Cond.methodLink RX8 168 yX8_takesBy, Cond.methodLink RX8 152 yX8_distance, Cond.methodLink RX8 155 yX8_lips] : List Cond) ++ ([] : List Cond)))))
def wsX8_say : List Cond := .code yX8_say cX8_say 6 (some .int) :: (wsX8_say_o ++ (wsX80 ++ (wsX8_isWord ++ (wsX8_isHour ++ (wsX8_notes ++ (wsX8_guardOn ++ (wsX8_isTakenNow ++ (wsX8_has ++ ([] : List Cond)))))))))
set_option maxRecDepth 100000 in
theorem itX8_say_o : ∀ w ∈ wsX8_say_o, w ∈ lw_tbl := List.forall_mem_append.mpr ⟨fun w h => ch_0 w (mem_r (big := k2_sels lw_privs) _ [45, 43, 46, 47, 48, 49, 50, 51, 52] (by decide +kernel) w h), List.forall_mem_append.mpr ⟨fun w h => ch_1 w (mem_r (big := tables_1_1) _ [9] (by decide +kernel) w h), List.forall_mem_append.mpr ⟨fun w h => ch_4 w (mem_r (big := tables_1_4) _ [132, 64, 169, 129, 238, 68, 67, 222] (by decide +kernel) w h), List.forall_mem_append.mpr ⟨fun w h => ch_5 w (mem_r (big := tables_1_5) _ [13, 15, 17, 18, 0, 20, 22, 24, 26, 6, 28, 32, 33, 35, 39, 43, 47] (by decide +kernel) w h), fun _ h => absurd h List.not_mem_nil⟩⟩⟩⟩
set_option maxRecDepth 100000 in
theorem itX8_say : ∀ w ∈ wsX8_say, w ∈ lw_tbl := List.forall_mem_cons.mpr ⟨ch_5 _ (List.mem_of_getElem? (l := tables_1_5) (i := 12) (by decide +kernel)), List.forall_mem_append.mpr ⟨itX8_say_o, List.forall_mem_append.mpr ⟨itX80, List.forall_mem_append.mpr ⟨itX8_isWord, List.forall_mem_append.mpr ⟨itX8_isHour, List.forall_mem_append.mpr ⟨itX8_notes, List.forall_mem_append.mpr ⟨itX8_guardOn, List.forall_mem_append.mpr ⟨itX8_isTakenNow, List.forall_mem_append.mpr ⟨itX8_has, fun _ h => absurd h List.not_mem_nil⟩⟩⟩⟩⟩⟩⟩⟩⟩
set_option maxRecDepth 100000 in
theorem gdX8_say_o : ∀ w ∈ wsX8_say_o, goodWord w = true := gd_o (by decide +kernel)
set_option maxRecDepth 100000 in
theorem gdX8_say : ∀ w ∈ wsX8_say, goodWord w = true := List.forall_mem_cons.mpr ⟨by decide +kernel, List.forall_mem_append.mpr ⟨gdX8_say_o, List.forall_mem_append.mpr ⟨gdX80, List.forall_mem_append.mpr ⟨gdX8_isWord, List.forall_mem_append.mpr ⟨gdX8_isHour, List.forall_mem_append.mpr ⟨gdX8_notes, List.forall_mem_append.mpr ⟨gdX8_guardOn, List.forall_mem_append.mpr ⟨gdX8_isTakenNow, List.forall_mem_append.mpr ⟨gdX8_has, fun _ h => absurd h List.not_mem_nil⟩⟩⟩⟩⟩⟩⟩⟩⟩
def wsX8_start_o : List Cond := (([Cond.selects RX8 yX8_isGate yX8_isGate, Cond.selects RX8 yX8_notes yX8_notes] : List Cond) ++ (([Cond.initialized RX8] : List Cond) ++ (([Cond.constant RX8 183 (-1000002), Cond.constant RX8 64 (-1000001), Cond.fieldLink RX8 25 "WrongWordModel" "now" "[I", Cond.methodLink RX8 180 yX8_isGate, Cond.instanceMethod yX8_isGate, Cond.methodLink RX8 56 yX8_in, Cond.static yX8_in, Cond.methodLink RX8 184 yX8_notes, Cond.fieldLink RX8 149 "WrongWordModel" "acts" "I", Cond.fieldLink RX8 34 "WrongWordModel" "past" "[I", Cond.methodLink RX8 145 yX8_copies] : List Cond) ++ (([Cond.instanceMethod yX8_notes] : List Cond) ++ ([] : List Cond)))))
def wsX8_start : List Cond := .code yX8_start cX8_start 3 (some .int) :: (wsX8_start_o ++ (wsX80 ++ (wsX8_isGate ++ (wsX8_in ++ (wsX8_notes ++ ([] : List Cond))))))
set_option maxRecDepth 100000 in
theorem itX8_start_o : ∀ w ∈ wsX8_start_o, w ∈ lw_tbl := List.forall_mem_append.mpr ⟨fun w h => ch_0 w (mem_r (big := k2_sels lw_privs) _ [42, 43] (by decide +kernel) w h), List.forall_mem_append.mpr ⟨fun w h => ch_1 w (mem_r (big := tables_1_1) _ [9] (by decide +kernel) w h), List.forall_mem_append.mpr ⟨fun w h => ch_4 w (mem_r (big := tables_1_4) _ [237, 132, 64, 233, 235, 129, 130, 238, 68, 67, 222] (by decide +kernel) w h), List.forall_mem_append.mpr ⟨fun w h => ch_5 w (mem_r (big := tables_1_5) _ [0] (by decide +kernel) w h), fun _ h => absurd h List.not_mem_nil⟩⟩⟩⟩
set_option maxRecDepth 100000 in
theorem itX8_start : ∀ w ∈ wsX8_start, w ∈ lw_tbl := List.forall_mem_cons.mpr ⟨ch_5 _ (List.mem_of_getElem? (l := tables_1_5) (i := 54) (by decide +kernel)), List.forall_mem_append.mpr ⟨itX8_start_o, List.forall_mem_append.mpr ⟨itX80, List.forall_mem_append.mpr ⟨itX8_isGate, List.forall_mem_append.mpr ⟨itX8_in, List.forall_mem_append.mpr ⟨itX8_notes, fun _ h => absurd h List.not_mem_nil⟩⟩⟩⟩⟩⟩
set_option maxRecDepth 100000 in
theorem gdX8_start_o : ∀ w ∈ wsX8_start_o, goodWord w = true := gd_o (by decide +kernel)
set_option maxRecDepth 100000 in
theorem gdX8_start : ∀ w ∈ wsX8_start, goodWord w = true := List.forall_mem_cons.mpr ⟨by decide +kernel, List.forall_mem_append.mpr ⟨gdX8_start_o, List.forall_mem_append.mpr ⟨gdX80, List.forall_mem_append.mpr ⟨gdX8_isGate, List.forall_mem_append.mpr ⟨gdX8_in, List.forall_mem_append.mpr ⟨gdX8_notes, fun _ h => absurd h List.not_mem_nil⟩⟩⟩⟩⟩⟩
def wsX8_dismiss_o : List Cond := (([Cond.selects RX8 yX8_isGuard yX8_isGuard, Cond.selects RX8 yX8_notes yX8_notes] : List Cond) ++ (([Cond.initialized RX8] : List Cond) ++ (([Cond.constant RX8 64 (-1000001), Cond.fieldLink RX8 25 "WrongWordModel" "now" "[I", Cond.constant RX8 183 (-1000002), Cond.methodLink RX8 56 yX8_in, Cond.static yX8_in, Cond.methodLink RX8 184 yX8_notes, Cond.fieldLink RX8 149 "WrongWordModel" "acts" "I", Cond.fieldLink RX8 34 "WrongWordModel" "past" "[I", Cond.methodLink RX8 145 yX8_copies] : List Cond) ++ (([Cond.methodLink RX8 199 yX8_isGuard, Cond.instanceMethod yX8_isGuard, Cond.instanceMethod yX8_notes] : List Cond) ++ ([] : List Cond)))))
def wsX8_dismiss : List Cond := .code yX8_dismiss cX8_dismiss 3 (some .int) :: (wsX8_dismiss_o ++ (wsX80 ++ (wsX8_isGuard ++ (wsX8_in ++ (wsX8_notes ++ ([] : List Cond))))))
set_option maxRecDepth 100000 in
theorem itX8_dismiss_o : ∀ w ∈ wsX8_dismiss_o, w ∈ lw_tbl := List.forall_mem_append.mpr ⟨fun w h => ch_0 w (mem_r (big := k2_sels lw_privs) _ [53, 43] (by decide +kernel) w h), List.forall_mem_append.mpr ⟨fun w h => ch_1 w (mem_r (big := tables_1_1) _ [9] (by decide +kernel) w h), List.forall_mem_append.mpr ⟨fun w h => ch_4 w (mem_r (big := tables_1_4) _ [132, 64, 237, 129, 130, 238, 68, 67, 222] (by decide +kernel) w h), List.forall_mem_append.mpr ⟨fun w h => ch_5 w (mem_r (big := tables_1_5) _ [59, 61, 0] (by decide +kernel) w h), fun _ h => absurd h List.not_mem_nil⟩⟩⟩⟩
set_option maxRecDepth 100000 in
theorem itX8_dismiss : ∀ w ∈ wsX8_dismiss, w ∈ lw_tbl := List.forall_mem_cons.mpr ⟨ch_5 _ (List.mem_of_getElem? (l := tables_1_5) (i := 58) (by decide +kernel)), List.forall_mem_append.mpr ⟨itX8_dismiss_o, List.forall_mem_append.mpr ⟨itX80, List.forall_mem_append.mpr ⟨itX8_isGuard, List.forall_mem_append.mpr ⟨itX8_in, List.forall_mem_append.mpr ⟨itX8_notes, fun _ h => absurd h List.not_mem_nil⟩⟩⟩⟩⟩⟩
set_option maxRecDepth 100000 in
theorem gdX8_dismiss_o : ∀ w ∈ wsX8_dismiss_o, goodWord w = true := gd_o (by decide +kernel)
set_option maxRecDepth 100000 in
theorem gdX8_dismiss : ∀ w ∈ wsX8_dismiss, goodWord w = true := List.forall_mem_cons.mpr ⟨by decide +kernel, List.forall_mem_append.mpr ⟨gdX8_dismiss_o, List.forall_mem_append.mpr ⟨gdX80, List.forall_mem_append.mpr ⟨gdX8_isGuard, List.forall_mem_append.mpr ⟨gdX8_in, List.forall_mem_append.mpr ⟨gdX8_notes, fun _ h => absurd h List.not_mem_nil⟩⟩⟩⟩⟩⟩
def wsX8_undo_o : List Cond := (([Cond.initialized RX8] : List Cond) ++ (([Cond.fieldLink RX8 149 "WrongWordModel" "acts" "I", Cond.constant RX8 183 (-1000002), Cond.fieldLink RX8 34 "WrongWordModel" "past" "[I", Cond.fieldLink RX8 25 "WrongWordModel" "now" "[I", Cond.methodLink RX8 145 yX8_copies, Cond.static yX8_copies] : List Cond) ++ ([] : List Cond)))
def wsX8_undo : List Cond := .code yX8_undo cX8_undo 1 (some .int) :: (wsX8_undo_o ++ (wsX80 ++ (wsX8_copies ++ ([] : List Cond))))
set_option maxRecDepth 100000 in
theorem itX8_undo_o : ∀ w ∈ wsX8_undo_o, w ∈ lw_tbl := List.forall_mem_append.mpr ⟨fun w h => ch_1 w (mem_r (big := tables_1_1) _ [9] (by decide +kernel) w h), List.forall_mem_append.mpr ⟨fun w h => ch_4 w (mem_r (big := tables_1_4) _ [68, 237, 67, 64, 222, 223] (by decide +kernel) w h), fun _ h => absurd h List.not_mem_nil⟩⟩
set_option maxRecDepth 100000 in
theorem itX8_undo : ∀ w ∈ wsX8_undo, w ∈ lw_tbl := List.forall_mem_cons.mpr ⟨ch_5 _ (List.mem_of_getElem? (l := tables_1_5) (i := 66) (by decide +kernel)), List.forall_mem_append.mpr ⟨itX8_undo_o, List.forall_mem_append.mpr ⟨itX80, List.forall_mem_append.mpr ⟨itX8_copies, fun _ h => absurd h List.not_mem_nil⟩⟩⟩⟩
set_option maxRecDepth 100000 in
theorem gdX8_undo_o : ∀ w ∈ wsX8_undo_o, goodWord w = true := gd_o (by decide +kernel)
set_option maxRecDepth 100000 in
theorem gdX8_undo : ∀ w ∈ wsX8_undo, goodWord w = true := List.forall_mem_cons.mpr ⟨by decide +kernel, List.forall_mem_append.mpr ⟨gdX8_undo_o, List.forall_mem_append.mpr ⟨gdX80, List.forall_mem_append.mpr ⟨gdX8_copies, fun _ h => absurd h List.not_mem_nil⟩⟩⟩⟩
def wsX8_letter_o : List Cond := (([Cond.selects RX8 yX8_isWord yX8_isWord] : List Cond) ++ (([Cond.initialized RX8] : List Cond) ++ (([Cond.fieldLink RX8 25 "WrongWordModel" "now" "[I", Cond.constant RX8 64 (-1000001), Cond.methodLink RX8 56 yX8_in, Cond.static yX8_in] : List Cond) ++ (([Cond.methodLink RX8 190 yX8_isWord, Cond.instanceMethod yX8_isWord] : List Cond) ++ ([] : List Cond)))))
def wsX8_letter : List Cond := .code yX8_letter cX8_letter 3 (some .int) :: (wsX8_letter_o ++ (wsX80 ++ (wsX8_isWord ++ (wsX8_in ++ ([] : List Cond)))))
set_option maxRecDepth 100000 in
theorem itX8_letter_o : ∀ w ∈ wsX8_letter_o, w ∈ lw_tbl := List.forall_mem_append.mpr ⟨fun w h => ch_0 w (mem_r (big := k2_sels lw_privs) _ [45] (by decide +kernel) w h), List.forall_mem_append.mpr ⟨fun w h => ch_1 w (mem_r (big := tables_1_1) _ [9] (by decide +kernel) w h), List.forall_mem_append.mpr ⟨fun w h => ch_4 w (mem_r (big := tables_1_4) _ [64, 132, 129, 130] (by decide +kernel) w h), List.forall_mem_append.mpr ⟨fun w h => ch_5 w (mem_r (big := tables_1_5) _ [13, 15] (by decide +kernel) w h), fun _ h => absurd h List.not_mem_nil⟩⟩⟩⟩
set_option maxRecDepth 100000 in
theorem itX8_letter : ∀ w ∈ wsX8_letter, w ∈ lw_tbl := List.forall_mem_cons.mpr ⟨ch_5 _ (List.mem_of_getElem? (l := tables_1_5) (i := 70) (by decide +kernel)), List.forall_mem_append.mpr ⟨itX8_letter_o, List.forall_mem_append.mpr ⟨itX80, List.forall_mem_append.mpr ⟨itX8_isWord, List.forall_mem_append.mpr ⟨itX8_in, fun _ h => absurd h List.not_mem_nil⟩⟩⟩⟩⟩
set_option maxRecDepth 100000 in
theorem gdX8_letter_o : ∀ w ∈ wsX8_letter_o, goodWord w = true := gd_o (by decide +kernel)
set_option maxRecDepth 100000 in
theorem gdX8_letter : ∀ w ∈ wsX8_letter, goodWord w = true := List.forall_mem_cons.mpr ⟨by decide +kernel, List.forall_mem_append.mpr ⟨gdX8_letter_o, List.forall_mem_append.mpr ⟨gdX80, List.forall_mem_append.mpr ⟨gdX8_isWord, List.forall_mem_append.mpr ⟨gdX8_in, fun _ h => absurd h List.not_mem_nil⟩⟩⟩⟩⟩
def wsX8_like_o : List Cond := (([Cond.selects RX8 yX8_isWord yX8_isWord, Cond.selects RX8 yX8_distance yX8_distance, Cond.selects RX8 yX8_lips yX8_lips] : List Cond) ++ (([Cond.initialized RX8] : List Cond) ++ (([Cond.constant RX8 64 (-1000001), Cond.fieldLink RX8 25 "WrongWordModel" "now" "[I", Cond.methodLink RX8 56 yX8_in, Cond.static yX8_in] : List Cond) ++ (([Cond.methodLink RX8 190 yX8_isWord, Cond.instanceMethod yX8_isWord, Cond.methodLink RX8 152 yX8_distance, Cond.instanceMethod yX8_distance, Cond.methodLink RX8 155 yX8_lips, Cond.instanceMethod yX8_lips] : List Cond) ++ ([] : List Cond)))))
def wsX8_like : List Cond := .code yX8_like cX8_like 4 (some .int) :: (wsX8_like_o ++ (wsX80 ++ (wsX8_isWord ++ (wsX8_in ++ (wsX8_distance ++ (wsX8_lips ++ ([] : List Cond)))))))
set_option maxRecDepth 100000 in
theorem itX8_like_o : ∀ w ∈ wsX8_like_o, w ∈ lw_tbl := List.forall_mem_append.mpr ⟨fun w h => ch_0 w (mem_r (big := k2_sels lw_privs) _ [45, 51, 52] (by decide +kernel) w h), List.forall_mem_append.mpr ⟨fun w h => ch_1 w (mem_r (big := tables_1_1) _ [9] (by decide +kernel) w h), List.forall_mem_append.mpr ⟨fun w h => ch_4 w (mem_r (big := tables_1_4) _ [132, 64, 129, 130] (by decide +kernel) w h), List.forall_mem_append.mpr ⟨fun w h => ch_5 w (mem_r (big := tables_1_5) _ [13, 15, 43, 45, 47, 49] (by decide +kernel) w h), fun _ h => absurd h List.not_mem_nil⟩⟩⟩⟩
set_option maxRecDepth 100000 in
theorem itX8_like : ∀ w ∈ wsX8_like, w ∈ lw_tbl := List.forall_mem_cons.mpr ⟨ch_5 _ (List.mem_of_getElem? (l := tables_1_5) (i := 74) (by decide +kernel)), List.forall_mem_append.mpr ⟨itX8_like_o, List.forall_mem_append.mpr ⟨itX80, List.forall_mem_append.mpr ⟨itX8_isWord, List.forall_mem_append.mpr ⟨itX8_in, List.forall_mem_append.mpr ⟨itX8_distance, List.forall_mem_append.mpr ⟨itX8_lips, fun _ h => absurd h List.not_mem_nil⟩⟩⟩⟩⟩⟩⟩
set_option maxRecDepth 100000 in
theorem gdX8_like_o : ∀ w ∈ wsX8_like_o, goodWord w = true := gd_o (by decide +kernel)
set_option maxRecDepth 100000 in
theorem gdX8_like : ∀ w ∈ wsX8_like, goodWord w = true := List.forall_mem_cons.mpr ⟨by decide +kernel, List.forall_mem_append.mpr ⟨gdX8_like_o, List.forall_mem_append.mpr ⟨gdX80, List.forall_mem_append.mpr ⟨gdX8_isWord, List.forall_mem_append.mpr ⟨gdX8_in, List.forall_mem_append.mpr ⟨gdX8_distance, List.forall_mem_append.mpr ⟨gdX8_lips, fun _ h => absurd h List.not_mem_nil⟩⟩⟩⟩⟩⟩⟩
def wsX8_hoursOf_o : List Cond := (([Cond.selects RX8 yX8_guardOn yX8_guardOn] : List Cond) ++ (([Cond.initialized RX8] : List Cond) ++ (([Cond.fieldLink RX8 25 "WrongWordModel" "now" "[I"] : List Cond) ++ (([Cond.methodLink RX8 158 yX8_guardOn, Cond.instanceMethod yX8_guardOn] : List Cond) ++ ([] : List Cond)))))
def wsX8_hoursOf : List Cond := .code yX8_hoursOf cX8_hoursOf 4 (some .int) :: (wsX8_hoursOf_o ++ (wsX80 ++ (wsX8_guardOn ++ ([] : List Cond))))
set_option maxRecDepth 100000 in
theorem itX8_hoursOf_o : ∀ w ∈ wsX8_hoursOf_o, w ∈ lw_tbl := List.forall_mem_append.mpr ⟨fun w h => ch_0 w (mem_r (big := k2_sels lw_privs) _ [46] (by decide +kernel) w h), List.forall_mem_append.mpr ⟨fun w h => ch_1 w (mem_r (big := tables_1_1) _ [9] (by decide +kernel) w h), List.forall_mem_append.mpr ⟨fun w h => ch_4 w (mem_r (big := tables_1_4) _ [64] (by decide +kernel) w h), List.forall_mem_append.mpr ⟨fun w h => ch_5 w (mem_r (big := tables_1_5) _ [20, 22] (by decide +kernel) w h), fun _ h => absurd h List.not_mem_nil⟩⟩⟩⟩
set_option maxRecDepth 100000 in
theorem itX8_hoursOf : ∀ w ∈ wsX8_hoursOf, w ∈ lw_tbl := List.forall_mem_cons.mpr ⟨ch_5 _ (List.mem_of_getElem? (l := tables_1_5) (i := 82) (by decide +kernel)), List.forall_mem_append.mpr ⟨itX8_hoursOf_o, List.forall_mem_append.mpr ⟨itX80, List.forall_mem_append.mpr ⟨itX8_guardOn, fun _ h => absurd h List.not_mem_nil⟩⟩⟩⟩
set_option maxRecDepth 100000 in
theorem gdX8_hoursOf_o : ∀ w ∈ wsX8_hoursOf_o, goodWord w = true := gd_o (by decide +kernel)
set_option maxRecDepth 100000 in
theorem gdX8_hoursOf : ∀ w ∈ wsX8_hoursOf, goodWord w = true := List.forall_mem_cons.mpr ⟨by decide +kernel, List.forall_mem_append.mpr ⟨gdX8_hoursOf_o, List.forall_mem_append.mpr ⟨gdX80, List.forall_mem_append.mpr ⟨gdX8_guardOn, fun _ h => absurd h List.not_mem_nil⟩⟩⟩⟩
def wsX8_guard_o : List Cond := (([Cond.selects RX8 yX8_isGuard yX8_isGuard, Cond.selects RX8 yX8_hoursOf yX8_hoursOf, Cond.selects RX8 yX8_guardOn yX8_guardOn] : List Cond) ++ (([Cond.initialized RX8] : List Cond) ++ (([Cond.constant RX8 64 (-1000001), Cond.fieldLink RX8 25 "WrongWordModel" "now" "[I", Cond.methodLink RX8 56 yX8_in] : List Cond) ++ (([Cond.methodLink RX8 199 yX8_isGuard, Cond.instanceMethod yX8_isGuard, Cond.methodLink RX8 202 yX8_hoursOf, Cond.instanceMethod yX8_hoursOf, Cond.methodLink RX8 158 yX8_guardOn] : List Cond) ++ ([] : List Cond)))))
def wsX8_guard : List Cond := .code yX8_guard cX8_guard 3 (some .int) :: (wsX8_guard_o ++ (wsX80 ++ (wsX8_isGuard ++ (wsX8_hoursOf ++ ([] : List Cond)))))
set_option maxRecDepth 100000 in
theorem itX8_guard_o : ∀ w ∈ wsX8_guard_o, w ∈ lw_tbl := List.forall_mem_append.mpr ⟨fun w h => ch_0 w (mem_r (big := k2_sels lw_privs) _ [53, 54, 46] (by decide +kernel) w h), List.forall_mem_append.mpr ⟨fun w h => ch_1 w (mem_r (big := tables_1_1) _ [9] (by decide +kernel) w h), List.forall_mem_append.mpr ⟨fun w h => ch_4 w (mem_r (big := tables_1_4) _ [132, 64, 129] (by decide +kernel) w h), List.forall_mem_append.mpr ⟨fun w h => ch_5 w (mem_r (big := tables_1_5) _ [59, 61, 79, 81, 20] (by decide +kernel) w h), fun _ h => absurd h List.not_mem_nil⟩⟩⟩⟩
set_option maxRecDepth 100000 in
theorem itX8_guard : ∀ w ∈ wsX8_guard, w ∈ lw_tbl := List.forall_mem_cons.mpr ⟨ch_5 _ (List.mem_of_getElem? (l := tables_1_5) (i := 78) (by decide +kernel)), List.forall_mem_append.mpr ⟨itX8_guard_o, List.forall_mem_append.mpr ⟨itX80, List.forall_mem_append.mpr ⟨itX8_isGuard, List.forall_mem_append.mpr ⟨itX8_hoursOf, fun _ h => absurd h List.not_mem_nil⟩⟩⟩⟩⟩
set_option maxRecDepth 100000 in
theorem gdX8_guard_o : ∀ w ∈ wsX8_guard_o, goodWord w = true := gd_o (by decide +kernel)
set_option maxRecDepth 100000 in
theorem gdX8_guard : ∀ w ∈ wsX8_guard, goodWord w = true := List.forall_mem_cons.mpr ⟨by decide +kernel, List.forall_mem_append.mpr ⟨gdX8_guard_o, List.forall_mem_append.mpr ⟨gdX80, List.forall_mem_append.mpr ⟨gdX8_isGuard, List.forall_mem_append.mpr ⟨gdX8_hoursOf, fun _ h => absurd h List.not_mem_nil⟩⟩⟩⟩⟩
def wsX8_tried_o : List Cond := (([Cond.initialized RX8] : List Cond) ++ (([Cond.fieldLink RX8 25 "WrongWordModel" "now" "[I", Cond.constant RX8 64 (-1000001), Cond.constant RX8 50 (-1000000), Cond.methodLink RX8 56 yX8_in, Cond.static yX8_in] : List Cond) ++ ([] : List Cond)))
def wsX8_tried : List Cond := .code yX8_tried cX8_tried 4 (some .int) :: (wsX8_tried_o ++ (wsX80 ++ (wsX8_in ++ ([] : List Cond))))
set_option maxRecDepth 100000 in
theorem itX8_tried_o : ∀ w ∈ wsX8_tried_o, w ∈ lw_tbl := List.forall_mem_append.mpr ⟨fun w h => ch_1 w (mem_r (big := tables_1_1) _ [9] (by decide +kernel) w h), List.forall_mem_append.mpr ⟨fun w h => ch_4 w (mem_r (big := tables_1_4) _ [64, 132, 50, 129, 130] (by decide +kernel) w h), fun _ h => absurd h List.not_mem_nil⟩⟩
set_option maxRecDepth 100000 in
theorem itX8_tried : ∀ w ∈ wsX8_tried, w ∈ lw_tbl := List.forall_mem_cons.mpr ⟨ch_5 _ (List.mem_of_getElem? (l := tables_1_5) (i := 86) (by decide +kernel)), List.forall_mem_append.mpr ⟨itX8_tried_o, List.forall_mem_append.mpr ⟨itX80, List.forall_mem_append.mpr ⟨itX8_in, fun _ h => absurd h List.not_mem_nil⟩⟩⟩⟩
set_option maxRecDepth 100000 in
theorem gdX8_tried_o : ∀ w ∈ wsX8_tried_o, goodWord w = true := gd_o (by decide +kernel)
set_option maxRecDepth 100000 in
theorem gdX8_tried : ∀ w ∈ wsX8_tried, goodWord w = true := List.forall_mem_cons.mpr ⟨by decide +kernel, List.forall_mem_append.mpr ⟨gdX8_tried_o, List.forall_mem_append.mpr ⟨gdX80, List.forall_mem_append.mpr ⟨gdX8_in, fun _ h => absurd h List.not_mem_nil⟩⟩⟩⟩
def wsX8_secret_o : List Cond := (([Cond.selects RX8 yX8_isGate yX8_isGate] : List Cond) ++ (([Cond.initialized RX8] : List Cond) ++ (([Cond.constant RX8 183 (-1000002), Cond.fieldLink RX8 25 "WrongWordModel" "now" "[I", Cond.constant RX8 64 (-1000001), Cond.methodLink RX8 180 yX8_isGate, Cond.instanceMethod yX8_isGate, Cond.methodLink RX8 56 yX8_in] : List Cond) ++ (([Cond.methodLink RX8 205 yX8_isFar, Cond.static yX8_isFar, Cond.methodLink RX8 172 yX8_secretOf, Cond.static yX8_secretOf] : List Cond) ++ ([] : List Cond)))))
def wsX8_secret : List Cond := .code yX8_secret cX8_secret 2 (some .int) :: (wsX8_secret_o ++ (wsX80 ++ (wsX8_isGate ++ (wsX8_isFar ++ (wsX8_secretOf ++ ([] : List Cond))))))
set_option maxRecDepth 100000 in
theorem itX8_secret_o : ∀ w ∈ wsX8_secret_o, w ∈ lw_tbl := List.forall_mem_append.mpr ⟨fun w h => ch_0 w (mem_r (big := k2_sels lw_privs) _ [42] (by decide +kernel) w h), List.forall_mem_append.mpr ⟨fun w h => ch_1 w (mem_r (big := tables_1_1) _ [9] (by decide +kernel) w h), List.forall_mem_append.mpr ⟨fun w h => ch_4 w (mem_r (big := tables_1_4) _ [237, 64, 132, 233, 235, 129] (by decide +kernel) w h), List.forall_mem_append.mpr ⟨fun w h => ch_5 w (mem_r (big := tables_1_5) _ [91, 92, 6, 7] (by decide +kernel) w h), fun _ h => absurd h List.not_mem_nil⟩⟩⟩⟩
set_option maxRecDepth 100000 in
theorem itX8_secret : ∀ w ∈ wsX8_secret, w ∈ lw_tbl := List.forall_mem_cons.mpr ⟨ch_5 _ (List.mem_of_getElem? (l := tables_1_5) (i := 90) (by decide +kernel)), List.forall_mem_append.mpr ⟨itX8_secret_o, List.forall_mem_append.mpr ⟨itX80, List.forall_mem_append.mpr ⟨itX8_isGate, List.forall_mem_append.mpr ⟨itX8_isFar, List.forall_mem_append.mpr ⟨itX8_secretOf, fun _ h => absurd h List.not_mem_nil⟩⟩⟩⟩⟩⟩
set_option maxRecDepth 100000 in
theorem gdX8_secret_o : ∀ w ∈ wsX8_secret_o, goodWord w = true := gd_o (by decide +kernel)
set_option maxRecDepth 100000 in
theorem gdX8_secret : ∀ w ∈ wsX8_secret, goodWord w = true := List.forall_mem_cons.mpr ⟨by decide +kernel, List.forall_mem_append.mpr ⟨gdX8_secret_o, List.forall_mem_append.mpr ⟨gdX80, List.forall_mem_append.mpr ⟨gdX8_isGate, List.forall_mem_append.mpr ⟨gdX8_isFar, List.forall_mem_append.mpr ⟨gdX8_secretOf, fun _ h => absurd h List.not_mem_nil⟩⟩⟩⟩⟩⟩
def wsX8_taken_o : List Cond := (([Cond.selects RX8 yX8_isWord yX8_isWord, Cond.selects RX8 yX8_isTakenNow yX8_isTakenNow, Cond.selects RX8 yX8_isTaken yX8_isTaken, Cond.selects RX8 yX8_guardOn yX8_guardOn, Cond.selects RX8 yX8_kindIn yX8_kindIn, Cond.selects RX8 yX8_takesBy yX8_takesBy, Cond.selects RX8 yX8_distance yX8_distance, Cond.selects RX8 yX8_lips yX8_lips] : List Cond) ++ (([Cond.initialized RX8] : List Cond) ++ (([Cond.constant RX8 64 (-1000001), Cond.fieldLink RX8 25 "WrongWordModel" "now" "[I", Cond.methodLink RX8 56 yX8_in] : List Cond) ++ (([Cond.methodLink RX8 190 yX8_isWord, Cond.instanceMethod yX8_isWord, Cond.methodLink RX8 193 yX8_isHour, Cond.static yX8_isHour, Cond.methodLink RX8 205 yX8_isFar, Cond.static yX8_isFar, Cond.methodLink RX8 196 yX8_isTakenNow, Cond.instanceMethod yX8_isTakenNow, Cond.methodLink RX8 172 yX8_secretOf, Cond.methodLink RX8 176 yX8_isTaken, Cond.methodLink RX8 158 yX8_guardOn, Cond.methodLink RX8 161 yX8_has, Cond.methodLink RX8 165 yX8_kindIn, Cond.methodLink RX8 168 yX8_takesBy, Cond.methodLink RX8 152 yX8_distance, Cond.methodLink RX8 155 yX8_lips] : List Cond) ++ ([] : List Cond)))))
def wsX8_taken : List Cond := .code yX8_taken cX8_taken 4 (some .int) :: (wsX8_taken_o ++ (wsX80 ++ (wsX8_isWord ++ (wsX8_isHour ++ (wsX8_isFar ++ (wsX8_isTakenNow ++ ([] : List Cond)))))))
set_option maxRecDepth 100000 in
theorem itX8_taken_o : ∀ w ∈ wsX8_taken_o, w ∈ lw_tbl := List.forall_mem_append.mpr ⟨fun w h => ch_0 w (mem_r (big := k2_sels lw_privs) _ [45, 47, 48, 46, 49, 50, 51, 52] (by decide +kernel) w h), List.forall_mem_append.mpr ⟨fun w h => ch_1 w (mem_r (big := tables_1_1) _ [9] (by decide +kernel) w h), List.forall_mem_append.mpr ⟨fun w h => ch_4 w (mem_r (big := tables_1_4) _ [132, 64, 129] (by decide +kernel) w h), List.forall_mem_append.mpr ⟨fun w h => ch_5 w (mem_r (big := tables_1_5) _ [13, 15, 17, 18, 91, 92, 24, 26, 6, 28, 20, 32, 35, 39, 43, 47] (by decide +kernel) w h), fun _ h => absurd h List.not_mem_nil⟩⟩⟩⟩
set_option maxRecDepth 100000 in
theorem itX8_taken : ∀ w ∈ wsX8_taken, w ∈ lw_tbl := List.forall_mem_cons.mpr ⟨ch_5 _ (List.mem_of_getElem? (l := tables_1_5) (i := 97) (by decide +kernel)), List.forall_mem_append.mpr ⟨itX8_taken_o, List.forall_mem_append.mpr ⟨itX80, List.forall_mem_append.mpr ⟨itX8_isWord, List.forall_mem_append.mpr ⟨itX8_isHour, List.forall_mem_append.mpr ⟨itX8_isFar, List.forall_mem_append.mpr ⟨itX8_isTakenNow, fun _ h => absurd h List.not_mem_nil⟩⟩⟩⟩⟩⟩⟩
set_option maxRecDepth 100000 in
theorem gdX8_taken_o : ∀ w ∈ wsX8_taken_o, goodWord w = true := gd_o (by decide +kernel)
set_option maxRecDepth 100000 in
theorem gdX8_taken : ∀ w ∈ wsX8_taken, goodWord w = true := List.forall_mem_cons.mpr ⟨by decide +kernel, List.forall_mem_append.mpr ⟨gdX8_taken_o, List.forall_mem_append.mpr ⟨gdX80, List.forall_mem_append.mpr ⟨gdX8_isWord, List.forall_mem_append.mpr ⟨gdX8_isHour, List.forall_mem_append.mpr ⟨gdX8_isFar, List.forall_mem_append.mpr ⟨gdX8_isTakenNow, fun _ h => absurd h List.not_mem_nil⟩⟩⟩⟩⟩⟩⟩
def wsX8_safe_o : List Cond := (([Cond.selects RX8 yX8_isGate yX8_isGate, Cond.selects RX8 yX8_isTakenNow yX8_isTakenNow, Cond.selects RX8 yX8_isTaken yX8_isTaken, Cond.selects RX8 yX8_guardOn yX8_guardOn, Cond.selects RX8 yX8_kindIn yX8_kindIn, Cond.selects RX8 yX8_takesBy yX8_takesBy, Cond.selects RX8 yX8_distance yX8_distance, Cond.selects RX8 yX8_lips yX8_lips] : List Cond) ++ (([Cond.initialized RX8] : List Cond) ++ (([Cond.constant RX8 183 (-1000002), Cond.constant RX8 64 (-1000001), Cond.fieldLink RX8 25 "WrongWordModel" "now" "[I", Cond.methodLink RX8 180 yX8_isGate, Cond.instanceMethod yX8_isGate, Cond.methodLink RX8 56 yX8_in] : List Cond) ++ (([Cond.methodLink RX8 193 yX8_isHour, Cond.static yX8_isHour, Cond.methodLink RX8 205 yX8_isFar, Cond.static yX8_isFar, Cond.methodLink RX8 196 yX8_isTakenNow, Cond.instanceMethod yX8_isTakenNow, Cond.methodLink RX8 172 yX8_secretOf, Cond.methodLink RX8 176 yX8_isTaken, Cond.methodLink RX8 158 yX8_guardOn, Cond.methodLink RX8 161 yX8_has, Cond.methodLink RX8 165 yX8_kindIn, Cond.methodLink RX8 168 yX8_takesBy, Cond.methodLink RX8 152 yX8_distance, Cond.methodLink RX8 155 yX8_lips] : List Cond) ++ ([] : List Cond)))))
def wsX8_safe : List Cond := .code yX8_safe cX8_safe 5 (some .int) :: (wsX8_safe_o ++ (wsX80 ++ (wsX8_isGate ++ (wsX8_isHour ++ (wsX8_isFar ++ (wsX8_isTakenNow ++ ([] : List Cond)))))))
set_option maxRecDepth 100000 in
theorem itX8_safe_o : ∀ w ∈ wsX8_safe_o, w ∈ lw_tbl := List.forall_mem_append.mpr ⟨fun w h => ch_0 w (mem_r (big := k2_sels lw_privs) _ [42, 47, 48, 46, 49, 50, 51, 52] (by decide +kernel) w h), List.forall_mem_append.mpr ⟨fun w h => ch_1 w (mem_r (big := tables_1_1) _ [9] (by decide +kernel) w h), List.forall_mem_append.mpr ⟨fun w h => ch_4 w (mem_r (big := tables_1_4) _ [237, 132, 64, 233, 235, 129] (by decide +kernel) w h), List.forall_mem_append.mpr ⟨fun w h => ch_5 w (mem_r (big := tables_1_5) _ [17, 18, 91, 92, 24, 26, 6, 28, 20, 32, 35, 39, 43, 47] (by decide +kernel) w h), fun _ h => absurd h List.not_mem_nil⟩⟩⟩⟩
set_option maxRecDepth 100000 in
theorem itX8_safe : ∀ w ∈ wsX8_safe, w ∈ lw_tbl := List.forall_mem_cons.mpr ⟨ch_5 _ (List.mem_of_getElem? (l := tables_1_5) (i := 101) (by decide +kernel)), List.forall_mem_append.mpr ⟨itX8_safe_o, List.forall_mem_append.mpr ⟨itX80, List.forall_mem_append.mpr ⟨itX8_isGate, List.forall_mem_append.mpr ⟨itX8_isHour, List.forall_mem_append.mpr ⟨itX8_isFar, List.forall_mem_append.mpr ⟨itX8_isTakenNow, fun _ h => absurd h List.not_mem_nil⟩⟩⟩⟩⟩⟩⟩
set_option maxRecDepth 100000 in
theorem gdX8_safe_o : ∀ w ∈ wsX8_safe_o, goodWord w = true := gd_o (by decide +kernel)
set_option maxRecDepth 100000 in
theorem gdX8_safe : ∀ w ∈ wsX8_safe, goodWord w = true := List.forall_mem_cons.mpr ⟨by decide +kernel, List.forall_mem_append.mpr ⟨gdX8_safe_o, List.forall_mem_append.mpr ⟨gdX80, List.forall_mem_append.mpr ⟨gdX8_isGate, List.forall_mem_append.mpr ⟨gdX8_isHour, List.forall_mem_append.mpr ⟨gdX8_isFar, List.forall_mem_append.mpr ⟨gdX8_isTakenNow, fun _ h => absurd h List.not_mem_nil⟩⟩⟩⟩⟩⟩⟩
def wsX8_areIn_o : List Cond := (([Cond.selects RX8 yX8_isTaken yX8_isTaken, Cond.selects RX8 yX8_guardOn yX8_guardOn, Cond.selects RX8 yX8_kindIn yX8_kindIn, Cond.selects RX8 yX8_takesBy yX8_takesBy, Cond.selects RX8 yX8_distance yX8_distance, Cond.selects RX8 yX8_lips yX8_lips] : List Cond) ++ (([Cond.initialized RX8] : List Cond) ++ (([Cond.fieldLink RX8 25 "WrongWordModel" "now" "[I"] : List Cond) ++ (([Cond.methodLink RX8 161 yX8_has, Cond.static yX8_has, Cond.methodLink RX8 172 yX8_secretOf, Cond.static yX8_secretOf, Cond.methodLink RX8 176 yX8_isTaken, Cond.instanceMethod yX8_isTaken, Cond.methodLink RX8 158 yX8_guardOn, Cond.methodLink RX8 165 yX8_kindIn, Cond.methodLink RX8 168 yX8_takesBy, Cond.methodLink RX8 152 yX8_distance, Cond.methodLink RX8 155 yX8_lips] : List Cond) ++ ([] : List Cond)))))
def wsX8_areIn : List Cond := .code yX8_areIn cX8_areIn 8 (some .boolean) :: (wsX8_areIn_o ++ (wsX80 ++ (wsX8_has ++ (wsX8_secretOf ++ (wsX8_isTaken ++ ([] : List Cond))))))
set_option maxRecDepth 100000 in
theorem itX8_areIn_o : ∀ w ∈ wsX8_areIn_o, w ∈ lw_tbl := List.forall_mem_append.mpr ⟨fun w h => ch_0 w (mem_r (big := k2_sels lw_privs) _ [48, 46, 49, 50, 51, 52] (by decide +kernel) w h), List.forall_mem_append.mpr ⟨fun w h => ch_1 w (mem_r (big := tables_1_1) _ [9] (by decide +kernel) w h), List.forall_mem_append.mpr ⟨fun w h => ch_4 w (mem_r (big := tables_1_4) _ [64] (by decide +kernel) w h), List.forall_mem_append.mpr ⟨fun w h => ch_5 w (mem_r (big := tables_1_5) _ [32, 33, 6, 7, 28, 30, 20, 35, 39, 43, 47] (by decide +kernel) w h), fun _ h => absurd h List.not_mem_nil⟩⟩⟩⟩
set_option maxRecDepth 100000 in
theorem itX8_areIn : ∀ w ∈ wsX8_areIn, w ∈ lw_tbl := List.forall_mem_cons.mpr ⟨ch_5 _ (List.mem_of_getElem? (l := tables_1_5) (i := 113) (by decide +kernel)), List.forall_mem_append.mpr ⟨itX8_areIn_o, List.forall_mem_append.mpr ⟨itX80, List.forall_mem_append.mpr ⟨itX8_has, List.forall_mem_append.mpr ⟨itX8_secretOf, List.forall_mem_append.mpr ⟨itX8_isTaken, fun _ h => absurd h List.not_mem_nil⟩⟩⟩⟩⟩⟩
set_option maxRecDepth 100000 in
theorem gdX8_areIn_o : ∀ w ∈ wsX8_areIn_o, goodWord w = true := gd_o (by decide +kernel)
set_option maxRecDepth 100000 in
theorem gdX8_areIn : ∀ w ∈ wsX8_areIn, goodWord w = true := List.forall_mem_cons.mpr ⟨by decide +kernel, List.forall_mem_append.mpr ⟨gdX8_areIn_o, List.forall_mem_append.mpr ⟨gdX80, List.forall_mem_append.mpr ⟨gdX8_has, List.forall_mem_append.mpr ⟨gdX8_secretOf, List.forall_mem_append.mpr ⟨gdX8_isTaken, fun _ h => absurd h List.not_mem_nil⟩⟩⟩⟩⟩⟩
def wsX8_open_o : List Cond := (([Cond.selects RX8 yX8_isGate yX8_isGate, Cond.selects RX8 yX8_areWords yX8_areWords, Cond.selects RX8 yX8_areIn yX8_areIn, Cond.selects RX8 yX8_isTaken yX8_isTaken, Cond.selects RX8 yX8_guardOn yX8_guardOn, Cond.selects RX8 yX8_kindIn yX8_kindIn, Cond.selects RX8 yX8_takesBy yX8_takesBy, Cond.selects RX8 yX8_distance yX8_distance, Cond.selects RX8 yX8_lips yX8_lips] : List Cond) ++ (([Cond.initialized RX8] : List Cond) ++ (([Cond.constant RX8 183 (-1000002), Cond.constant RX8 64 (-1000001), Cond.fieldLink RX8 25 "WrongWordModel" "now" "[I", Cond.methodLink RX8 180 yX8_isGate, Cond.instanceMethod yX8_isGate, Cond.methodLink RX8 56 yX8_in] : List Cond) ++ (([Cond.methodLink RX8 208 yX8_areWords, Cond.instanceMethod yX8_areWords, Cond.methodLink RX8 205 yX8_isFar, Cond.static yX8_isFar, Cond.methodLink RX8 211 yX8_areIn, Cond.instanceMethod yX8_areIn, Cond.methodLink RX8 161 yX8_has, Cond.methodLink RX8 172 yX8_secretOf, Cond.methodLink RX8 176 yX8_isTaken, Cond.methodLink RX8 158 yX8_guardOn, Cond.methodLink RX8 165 yX8_kindIn, Cond.methodLink RX8 168 yX8_takesBy, Cond.methodLink RX8 152 yX8_distance, Cond.methodLink RX8 155 yX8_lips] : List Cond) ++ ([] : List Cond)))))
def wsX8_open : List Cond := .code yX8_open cX8_open 5 (some .int) :: (wsX8_open_o ++ (wsX80 ++ (wsX8_isGate ++ (wsX8_areWords ++ (wsX8_isFar ++ (wsX8_areIn ++ ([] : List Cond)))))))
set_option maxRecDepth 100000 in
theorem itX8_open_o : ∀ w ∈ wsX8_open_o, w ∈ lw_tbl := List.forall_mem_append.mpr ⟨fun w h => ch_0 w (mem_r (big := k2_sels lw_privs) _ [42, 55, 56, 48, 46, 49, 50, 51, 52] (by decide +kernel) w h), List.forall_mem_append.mpr ⟨fun w h => ch_1 w (mem_r (big := tables_1_1) _ [9] (by decide +kernel) w h), List.forall_mem_append.mpr ⟨fun w h => ch_4 w (mem_r (big := tables_1_4) _ [237, 132, 64, 233, 235, 129] (by decide +kernel) w h), List.forall_mem_append.mpr ⟨fun w h => ch_5 w (mem_r (big := tables_1_5) _ [106, 108, 91, 92, 110, 112, 32, 6, 28, 20, 35, 39, 43, 47] (by decide +kernel) w h), fun _ h => absurd h List.not_mem_nil⟩⟩⟩⟩
set_option maxRecDepth 100000 in
theorem itX8_open : ∀ w ∈ wsX8_open, w ∈ lw_tbl := List.forall_mem_cons.mpr ⟨ch_5 _ (List.mem_of_getElem? (l := tables_1_5) (i := 105) (by decide +kernel)), List.forall_mem_append.mpr ⟨itX8_open_o, List.forall_mem_append.mpr ⟨itX80, List.forall_mem_append.mpr ⟨itX8_isGate, List.forall_mem_append.mpr ⟨itX8_areWords, List.forall_mem_append.mpr ⟨itX8_isFar, List.forall_mem_append.mpr ⟨itX8_areIn, fun _ h => absurd h List.not_mem_nil⟩⟩⟩⟩⟩⟩⟩
set_option maxRecDepth 100000 in
theorem gdX8_open_o : ∀ w ∈ wsX8_open_o, goodWord w = true := gd_o (by decide +kernel)
set_option maxRecDepth 100000 in
theorem gdX8_open : ∀ w ∈ wsX8_open, goodWord w = true := List.forall_mem_cons.mpr ⟨by decide +kernel, List.forall_mem_append.mpr ⟨gdX8_open_o, List.forall_mem_append.mpr ⟨gdX80, List.forall_mem_append.mpr ⟨gdX8_isGate, List.forall_mem_append.mpr ⟨gdX8_areWords, List.forall_mem_append.mpr ⟨gdX8_isFar, List.forall_mem_append.mpr ⟨gdX8_areIn, fun _ h => absurd h List.not_mem_nil⟩⟩⟩⟩⟩⟩⟩
def wsX8_next_o : List Cond := (([Cond.selects RX8 yX8_isWord yX8_isWord] : List Cond) ++ (([Cond.initialized RX8] : List Cond) ++ (([Cond.constant RX8 64 (-1000001), Cond.fieldLink RX8 25 "WrongWordModel" "now" "[I", Cond.constant RX8 50 (-1000000), Cond.methodLink RX8 56 yX8_in] : List Cond) ++ (([Cond.methodLink RX8 190 yX8_isWord, Cond.instanceMethod yX8_isWord, Cond.methodLink RX8 172 yX8_secretOf, Cond.static yX8_secretOf] : List Cond) ++ ([] : List Cond)))))
def wsX8_next : List Cond := .code yX8_next cX8_next 3 (some .int) :: (wsX8_next_o ++ (wsX80 ++ (wsX8_isWord ++ (wsX8_secretOf ++ ([] : List Cond)))))
set_option maxRecDepth 100000 in
theorem itX8_next_o : ∀ w ∈ wsX8_next_o, w ∈ lw_tbl := List.forall_mem_append.mpr ⟨fun w h => ch_0 w (mem_r (big := k2_sels lw_privs) _ [45] (by decide +kernel) w h), List.forall_mem_append.mpr ⟨fun w h => ch_1 w (mem_r (big := tables_1_1) _ [9] (by decide +kernel) w h), List.forall_mem_append.mpr ⟨fun w h => ch_4 w (mem_r (big := tables_1_4) _ [132, 64, 50, 129] (by decide +kernel) w h), List.forall_mem_append.mpr ⟨fun w h => ch_5 w (mem_r (big := tables_1_5) _ [13, 15, 6, 7] (by decide +kernel) w h), fun _ h => absurd h List.not_mem_nil⟩⟩⟩⟩
set_option maxRecDepth 100000 in
theorem itX8_next : ∀ w ∈ wsX8_next, w ∈ lw_tbl := List.forall_mem_cons.mpr ⟨ch_5 _ (List.mem_of_getElem? (l := tables_1_5) (i := 117) (by decide +kernel)), List.forall_mem_append.mpr ⟨itX8_next_o, List.forall_mem_append.mpr ⟨itX80, List.forall_mem_append.mpr ⟨itX8_isWord, List.forall_mem_append.mpr ⟨itX8_secretOf, fun _ h => absurd h List.not_mem_nil⟩⟩⟩⟩⟩
set_option maxRecDepth 100000 in
theorem gdX8_next_o : ∀ w ∈ wsX8_next_o, goodWord w = true := gd_o (by decide +kernel)
set_option maxRecDepth 100000 in
theorem gdX8_next : ∀ w ∈ wsX8_next, goodWord w = true := List.forall_mem_cons.mpr ⟨by decide +kernel, List.forall_mem_append.mpr ⟨gdX8_next_o, List.forall_mem_append.mpr ⟨gdX80, List.forall_mem_append.mpr ⟨gdX8_isWord, List.forall_mem_append.mpr ⟨gdX8_secretOf, fun _ h => absurd h List.not_mem_nil⟩⟩⟩⟩⟩
def wsX8_agreeing_o : List Cond := (([Cond.selects RX8 yX8_kindIn yX8_kindIn, Cond.selects RX8 yX8_takesBy yX8_takesBy, Cond.selects RX8 yX8_distance yX8_distance, Cond.selects RX8 yX8_lips yX8_lips] : List Cond) ++ (([Cond.initialized RX8] : List Cond) ++ (([Cond.fieldLink RX8 25 "WrongWordModel" "now" "[I"] : List Cond) ++ (([Cond.methodLink RX8 165 yX8_kindIn, Cond.instanceMethod yX8_kindIn, Cond.methodLink RX8 168 yX8_takesBy, Cond.instanceMethod yX8_takesBy, Cond.methodLink RX8 152 yX8_distance, Cond.methodLink RX8 155 yX8_lips] : List Cond) ++ ([] : List Cond)))))
def wsX8_agreeing : List Cond := .code yX8_agreeing cX8_agreeing 6 (some .int) :: (wsX8_agreeing_o ++ (wsX80 ++ (wsX8_kindIn ++ (wsX8_takesBy ++ ([] : List Cond)))))
set_option maxRecDepth 100000 in
theorem itX8_agreeing_o : ∀ w ∈ wsX8_agreeing_o, w ∈ lw_tbl := List.forall_mem_append.mpr ⟨fun w h => ch_0 w (mem_r (big := k2_sels lw_privs) _ [49, 50, 51, 52] (by decide +kernel) w h), List.forall_mem_append.mpr ⟨fun w h => ch_1 w (mem_r (big := tables_1_1) _ [9] (by decide +kernel) w h), List.forall_mem_append.mpr ⟨fun w h => ch_4 w (mem_r (big := tables_1_4) _ [64] (by decide +kernel) w h), List.forall_mem_append.mpr ⟨fun w h => ch_5 w (mem_r (big := tables_1_5) _ [35, 37, 39, 41, 43, 47] (by decide +kernel) w h), fun _ h => absurd h List.not_mem_nil⟩⟩⟩⟩
set_option maxRecDepth 100000 in
theorem itX8_agreeing : ∀ w ∈ wsX8_agreeing, w ∈ lw_tbl := List.forall_mem_cons.mpr ⟨ch_5 _ (List.mem_of_getElem? (l := tables_1_5) (i := 125) (by decide +kernel)), List.forall_mem_append.mpr ⟨itX8_agreeing_o, List.forall_mem_append.mpr ⟨itX80, List.forall_mem_append.mpr ⟨itX8_kindIn, List.forall_mem_append.mpr ⟨itX8_takesBy, fun _ h => absurd h List.not_mem_nil⟩⟩⟩⟩⟩
set_option maxRecDepth 100000 in
theorem gdX8_agreeing_o : ∀ w ∈ wsX8_agreeing_o, goodWord w = true := gd_o (by decide +kernel)
set_option maxRecDepth 100000 in
theorem gdX8_agreeing : ∀ w ∈ wsX8_agreeing, goodWord w = true := List.forall_mem_cons.mpr ⟨by decide +kernel, List.forall_mem_append.mpr ⟨gdX8_agreeing_o, List.forall_mem_append.mpr ⟨gdX80, List.forall_mem_append.mpr ⟨gdX8_kindIn, List.forall_mem_append.mpr ⟨gdX8_takesBy, fun _ h => absurd h List.not_mem_nil⟩⟩⟩⟩⟩
def wsX8_agree_o : List Cond := (([Cond.selects RX8 yX8_isGate yX8_isGate, Cond.selects RX8 yX8_agreeing yX8_agreeing, Cond.selects RX8 yX8_kindIn yX8_kindIn, Cond.selects RX8 yX8_takesBy yX8_takesBy, Cond.selects RX8 yX8_distance yX8_distance, Cond.selects RX8 yX8_lips yX8_lips] : List Cond) ++ (([Cond.initialized RX8] : List Cond) ++ (([Cond.constant RX8 183 (-1000002), Cond.methodLink RX8 180 yX8_isGate, Cond.instanceMethod yX8_isGate, Cond.fieldLink RX8 25 "WrongWordModel" "now" "[I"] : List Cond) ++ (([Cond.methodLink RX8 214 yX8_agreeing, Cond.instanceMethod yX8_agreeing, Cond.methodLink RX8 165 yX8_kindIn, Cond.methodLink RX8 168 yX8_takesBy, Cond.methodLink RX8 152 yX8_distance, Cond.methodLink RX8 155 yX8_lips] : List Cond) ++ ([] : List Cond)))))
def wsX8_agree : List Cond := .code yX8_agree cX8_agree 1 (some .int) :: (wsX8_agree_o ++ (wsX80 ++ (wsX8_isGate ++ (wsX8_agreeing ++ ([] : List Cond)))))
set_option maxRecDepth 100000 in
theorem itX8_agree_o : ∀ w ∈ wsX8_agree_o, w ∈ lw_tbl := List.forall_mem_append.mpr ⟨fun w h => ch_0 w (mem_r (big := k2_sels lw_privs) _ [42, 57, 49, 50, 51, 52] (by decide +kernel) w h), List.forall_mem_append.mpr ⟨fun w h => ch_1 w (mem_r (big := tables_1_1) _ [9] (by decide +kernel) w h), List.forall_mem_append.mpr ⟨fun w h => ch_4 w (mem_r (big := tables_1_4) _ [237, 233, 235, 64] (by decide +kernel) w h), List.forall_mem_append.mpr ⟨fun w h => ch_5 w (mem_r (big := tables_1_5) _ [122, 124, 35, 39, 43, 47] (by decide +kernel) w h), fun _ h => absurd h List.not_mem_nil⟩⟩⟩⟩
set_option maxRecDepth 100000 in
theorem itX8_agree : ∀ w ∈ wsX8_agree, w ∈ lw_tbl := List.forall_mem_cons.mpr ⟨ch_5 _ (List.mem_of_getElem? (l := tables_1_5) (i := 121) (by decide +kernel)), List.forall_mem_append.mpr ⟨itX8_agree_o, List.forall_mem_append.mpr ⟨itX80, List.forall_mem_append.mpr ⟨itX8_isGate, List.forall_mem_append.mpr ⟨itX8_agreeing, fun _ h => absurd h List.not_mem_nil⟩⟩⟩⟩⟩
set_option maxRecDepth 100000 in
theorem gdX8_agree_o : ∀ w ∈ wsX8_agree_o, goodWord w = true := gd_o (by decide +kernel)
set_option maxRecDepth 100000 in
theorem gdX8_agree : ∀ w ∈ wsX8_agree, goodWord w = true := List.forall_mem_cons.mpr ⟨by decide +kernel, List.forall_mem_append.mpr ⟨gdX8_agree_o, List.forall_mem_append.mpr ⟨gdX80, List.forall_mem_append.mpr ⟨gdX8_isGate, List.forall_mem_append.mpr ⟨gdX8_agreeing, fun _ h => absurd h List.not_mem_nil⟩⟩⟩⟩⟩
def wsX8_takenOf_o : List Cond := (([Cond.selects RX8 yX8_isTaken yX8_isTaken, Cond.selects RX8 yX8_guardOn yX8_guardOn, Cond.selects RX8 yX8_kindIn yX8_kindIn, Cond.selects RX8 yX8_takesBy yX8_takesBy, Cond.selects RX8 yX8_distance yX8_distance, Cond.selects RX8 yX8_lips yX8_lips] : List Cond) ++ (([Cond.initialized RX8] : List Cond) ++ (([Cond.fieldLink RX8 25 "WrongWordModel" "now" "[I"] : List Cond) ++ (([Cond.methodLink RX8 161 yX8_has, Cond.static yX8_has, Cond.methodLink RX8 176 yX8_isTaken, Cond.instanceMethod yX8_isTaken, Cond.methodLink RX8 158 yX8_guardOn, Cond.methodLink RX8 165 yX8_kindIn, Cond.methodLink RX8 168 yX8_takesBy, Cond.methodLink RX8 152 yX8_distance, Cond.methodLink RX8 155 yX8_lips] : List Cond) ++ ([] : List Cond)))))
def wsX8_takenOf : List Cond := .code yX8_takenOf cX8_takenOf 6 (some .int) :: (wsX8_takenOf_o ++ (wsX80 ++ (wsX8_has ++ (wsX8_isTaken ++ ([] : List Cond)))))
set_option maxRecDepth 100000 in
theorem itX8_takenOf_o : ∀ w ∈ wsX8_takenOf_o, w ∈ lw_tbl := List.forall_mem_append.mpr ⟨fun w h => ch_0 w (mem_r (big := k2_sels lw_privs) _ [48, 46, 49, 50, 51, 52] (by decide +kernel) w h), List.forall_mem_append.mpr ⟨fun w h => ch_1 w (mem_r (big := tables_1_1) _ [9] (by decide +kernel) w h), List.forall_mem_append.mpr ⟨fun w h => ch_4 w (mem_r (big := tables_1_4) _ [64] (by decide +kernel) w h), List.forall_mem_append.mpr ⟨fun w h => ch_5 w (mem_r (big := tables_1_5) _ [32, 33, 28, 30, 20, 35, 39, 43, 47] (by decide +kernel) w h), fun _ h => absurd h List.not_mem_nil⟩⟩⟩⟩
set_option maxRecDepth 100000 in
theorem itX8_takenOf : ∀ w ∈ wsX8_takenOf, w ∈ lw_tbl := List.forall_mem_cons.mpr ⟨ch_5 _ (List.mem_of_getElem? (l := tables_1_5) (i := 136) (by decide +kernel)), List.forall_mem_append.mpr ⟨itX8_takenOf_o, List.forall_mem_append.mpr ⟨itX80, List.forall_mem_append.mpr ⟨itX8_has, List.forall_mem_append.mpr ⟨itX8_isTaken, fun _ h => absurd h List.not_mem_nil⟩⟩⟩⟩⟩
set_option maxRecDepth 100000 in
theorem gdX8_takenOf_o : ∀ w ∈ wsX8_takenOf_o, goodWord w = true := gd_o (by decide +kernel)
set_option maxRecDepth 100000 in
theorem gdX8_takenOf : ∀ w ∈ wsX8_takenOf, goodWord w = true := List.forall_mem_cons.mpr ⟨by decide +kernel, List.forall_mem_append.mpr ⟨gdX8_takenOf_o, List.forall_mem_append.mpr ⟨gdX80, List.forall_mem_append.mpr ⟨gdX8_has, List.forall_mem_append.mpr ⟨gdX8_isTaken, fun _ h => absurd h List.not_mem_nil⟩⟩⟩⟩⟩
def wsX8_man_o : List Cond := (([Cond.selects RX8 yX8_isGate yX8_isGate, Cond.selects RX8 yX8_agreeing yX8_agreeing, Cond.selects RX8 yX8_kindIn yX8_kindIn, Cond.selects RX8 yX8_takesBy yX8_takesBy, Cond.selects RX8 yX8_distance yX8_distance, Cond.selects RX8 yX8_lips yX8_lips, Cond.selects RX8 yX8_takenOf yX8_takenOf, Cond.selects RX8 yX8_isTaken yX8_isTaken, Cond.selects RX8 yX8_guardOn yX8_guardOn] : List Cond) ++ (([Cond.initialized RX8] : List Cond) ++ (([Cond.constant RX8 183 (-1000002), Cond.constant RX8 64 (-1000001), Cond.fieldLink RX8 25 "WrongWordModel" "now" "[I", Cond.methodLink RX8 180 yX8_isGate, Cond.instanceMethod yX8_isGate, Cond.methodLink RX8 56 yX8_in, Cond.static yX8_in] : List Cond) ++ (([Cond.methodLink RX8 214 yX8_agreeing, Cond.instanceMethod yX8_agreeing, Cond.methodLink RX8 165 yX8_kindIn, Cond.methodLink RX8 168 yX8_takesBy, Cond.methodLink RX8 152 yX8_distance, Cond.methodLink RX8 155 yX8_lips, Cond.methodLink RX8 217 yX8_ones, Cond.static yX8_ones, Cond.methodLink RX8 220 yX8_takenOf, Cond.instanceMethod yX8_takenOf, Cond.methodLink RX8 161 yX8_has, Cond.methodLink RX8 176 yX8_isTaken, Cond.methodLink RX8 158 yX8_guardOn] : List Cond) ++ ([] : List Cond)))))
def wsX8_man : List Cond := .code yX8_man cX8_man 11 (some .int) :: (wsX8_man_o ++ (wsX80 ++ (wsX8_isGate ++ (wsX8_in ++ (wsX8_agreeing ++ (wsX8_ones ++ (wsX8_takenOf ++ ([] : List Cond))))))))
set_option maxRecDepth 100000 in
theorem itX8_man_o : ∀ w ∈ wsX8_man_o, w ∈ lw_tbl := List.forall_mem_append.mpr ⟨fun w h => ch_0 w (mem_r (big := k2_sels lw_privs) _ [42, 57, 49, 50, 51, 52, 58, 48, 46] (by decide +kernel) w h), List.forall_mem_append.mpr ⟨fun w h => ch_1 w (mem_r (big := tables_1_1) _ [9] (by decide +kernel) w h), List.forall_mem_append.mpr ⟨fun w h => ch_4 w (mem_r (big := tables_1_4) _ [237, 132, 64, 233, 235, 129, 130] (by decide +kernel) w h), List.forall_mem_append.mpr ⟨fun w h => ch_5 w (mem_r (big := tables_1_5) _ [122, 124, 35, 39, 43, 47, 130, 131, 133, 135, 32, 28, 20] (by decide +kernel) w h), fun _ h => absurd h List.not_mem_nil⟩⟩⟩⟩
set_option maxRecDepth 100000 in
theorem itX8_man : ∀ w ∈ wsX8_man, w ∈ lw_tbl := List.forall_mem_cons.mpr ⟨ch_5 _ (List.mem_of_getElem? (l := tables_1_5) (i := 129) (by decide +kernel)), List.forall_mem_append.mpr ⟨itX8_man_o, List.forall_mem_append.mpr ⟨itX80, List.forall_mem_append.mpr ⟨itX8_isGate, List.forall_mem_append.mpr ⟨itX8_in, List.forall_mem_append.mpr ⟨itX8_agreeing, List.forall_mem_append.mpr ⟨itX8_ones, List.forall_mem_append.mpr ⟨itX8_takenOf, fun _ h => absurd h List.not_mem_nil⟩⟩⟩⟩⟩⟩⟩⟩
set_option maxRecDepth 100000 in
theorem gdX8_man_o : ∀ w ∈ wsX8_man_o, goodWord w = true := gd_o (by decide +kernel)
set_option maxRecDepth 100000 in
theorem gdX8_man : ∀ w ∈ wsX8_man, goodWord w = true := List.forall_mem_cons.mpr ⟨by decide +kernel, List.forall_mem_append.mpr ⟨gdX8_man_o, List.forall_mem_append.mpr ⟨gdX80, List.forall_mem_append.mpr ⟨gdX8_isGate, List.forall_mem_append.mpr ⟨gdX8_in, List.forall_mem_append.mpr ⟨gdX8_agreeing, List.forall_mem_append.mpr ⟨gdX8_ones, List.forall_mem_append.mpr ⟨gdX8_takenOf, fun _ h => absurd h List.not_mem_nil⟩⟩⟩⟩⟩⟩⟩⟩
def wsX8_menFor_o : List Cond := (([Cond.selects RX8 yX8_takenOf yX8_takenOf, Cond.selects RX8 yX8_isTaken yX8_isTaken, Cond.selects RX8 yX8_guardOn yX8_guardOn, Cond.selects RX8 yX8_kindIn yX8_kindIn, Cond.selects RX8 yX8_takesBy yX8_takesBy, Cond.selects RX8 yX8_distance yX8_distance, Cond.selects RX8 yX8_lips yX8_lips] : List Cond) ++ (([Cond.initialized RX8] : List Cond) ++ (([Cond.constant RX8 50 (-1000000), Cond.fieldLink RX8 25 "WrongWordModel" "now" "[I", Cond.fieldLink RX8 44 "WrongWordModel" "men" "[I"] : List Cond) ++ (([Cond.methodLink RX8 217 yX8_ones, Cond.static yX8_ones, Cond.methodLink RX8 220 yX8_takenOf, Cond.instanceMethod yX8_takenOf, Cond.methodLink RX8 161 yX8_has, Cond.methodLink RX8 176 yX8_isTaken, Cond.methodLink RX8 158 yX8_guardOn, Cond.methodLink RX8 165 yX8_kindIn, Cond.methodLink RX8 168 yX8_takesBy, Cond.methodLink RX8 152 yX8_distance, Cond.methodLink RX8 155 yX8_lips] : List Cond) ++ ([] : List Cond)))))
def wsX8_menFor : List Cond := .code yX8_menFor cX8_menFor 8 (some .int) :: (wsX8_menFor_o ++ (wsX80 ++ (wsX8_ones ++ (wsX8_takenOf ++ ([] : List Cond)))))
set_option maxRecDepth 100000 in
theorem itX8_menFor_o : ∀ w ∈ wsX8_menFor_o, w ∈ lw_tbl := List.forall_mem_append.mpr ⟨fun w h => ch_0 w (mem_r (big := k2_sels lw_privs) _ [58, 48, 46, 49, 50, 51, 52] (by decide +kernel) w h), List.forall_mem_append.mpr ⟨fun w h => ch_1 w (mem_r (big := tables_1_1) _ [9] (by decide +kernel) w h), List.forall_mem_append.mpr ⟨fun w h => ch_4 w (mem_r (big := tables_1_4) _ [50, 64, 71] (by decide +kernel) w h), List.forall_mem_append.mpr ⟨fun w h => ch_5 w (mem_r (big := tables_1_5) _ [130, 131, 133, 135, 32, 28, 20, 35, 39, 43, 47] (by decide +kernel) w h), fun _ h => absurd h List.not_mem_nil⟩⟩⟩⟩
set_option maxRecDepth 100000 in
theorem itX8_menFor : ∀ w ∈ wsX8_menFor, w ∈ lw_tbl := List.forall_mem_cons.mpr ⟨ch_5 _ (List.mem_of_getElem? (l := tables_1_5) (i := 144) (by decide +kernel)), List.forall_mem_append.mpr ⟨itX8_menFor_o, List.forall_mem_append.mpr ⟨itX80, List.forall_mem_append.mpr ⟨itX8_ones, List.forall_mem_append.mpr ⟨itX8_takenOf, fun _ h => absurd h List.not_mem_nil⟩⟩⟩⟩⟩
set_option maxRecDepth 100000 in
theorem gdX8_menFor_o : ∀ w ∈ wsX8_menFor_o, goodWord w = true := gd_o (by decide +kernel)
set_option maxRecDepth 100000 in
theorem gdX8_menFor : ∀ w ∈ wsX8_menFor, goodWord w = true := List.forall_mem_cons.mpr ⟨by decide +kernel, List.forall_mem_append.mpr ⟨gdX8_menFor_o, List.forall_mem_append.mpr ⟨gdX80, List.forall_mem_append.mpr ⟨gdX8_ones, List.forall_mem_append.mpr ⟨gdX8_takenOf, fun _ h => absurd h List.not_mem_nil⟩⟩⟩⟩⟩
def wsX8_fewest_o : List Cond := (([Cond.selects RX8 yX8_isGate yX8_isGate, Cond.selects RX8 yX8_agreeing yX8_agreeing, Cond.selects RX8 yX8_kindIn yX8_kindIn, Cond.selects RX8 yX8_takesBy yX8_takesBy, Cond.selects RX8 yX8_distance yX8_distance, Cond.selects RX8 yX8_lips yX8_lips, Cond.selects RX8 yX8_menFor yX8_menFor, Cond.selects RX8 yX8_takenOf yX8_takenOf, Cond.selects RX8 yX8_isTaken yX8_isTaken, Cond.selects RX8 yX8_guardOn yX8_guardOn] : List Cond) ++ (([Cond.initialized RX8] : List Cond) ++ (([Cond.constant RX8 183 (-1000002), Cond.fieldLink RX8 44 "WrongWordModel" "men" "[I", Cond.methodLink RX8 180 yX8_isGate, Cond.instanceMethod yX8_isGate, Cond.fieldLink RX8 25 "WrongWordModel" "now" "[I", Cond.constant RX8 50 (-1000000)] : List Cond) ++ (([Cond.methodLink RX8 214 yX8_agreeing, Cond.instanceMethod yX8_agreeing, Cond.methodLink RX8 165 yX8_kindIn, Cond.methodLink RX8 168 yX8_takesBy, Cond.methodLink RX8 152 yX8_distance, Cond.methodLink RX8 155 yX8_lips, Cond.methodLink RX8 224 yX8_menFor, Cond.instanceMethod yX8_menFor, Cond.methodLink RX8 217 yX8_ones, Cond.methodLink RX8 220 yX8_takenOf, Cond.methodLink RX8 161 yX8_has, Cond.methodLink RX8 176 yX8_isTaken, Cond.methodLink RX8 158 yX8_guardOn] : List Cond) ++ ([] : List Cond)))))
def wsX8_fewest : List Cond := .code yX8_fewest cX8_fewest 3 (some .int) :: (wsX8_fewest_o ++ (wsX80 ++ (wsX8_isGate ++ (wsX8_agreeing ++ (wsX8_menFor ++ ([] : List Cond))))))
set_option maxRecDepth 100000 in
theorem itX8_fewest_o : ∀ w ∈ wsX8_fewest_o, w ∈ lw_tbl := List.forall_mem_append.mpr ⟨fun w h => ch_0 w (mem_r (big := k2_sels lw_privs) _ [42, 57, 49, 50, 51, 52, 59, 58, 48, 46] (by decide +kernel) w h), List.forall_mem_append.mpr ⟨fun w h => ch_1 w (mem_r (big := tables_1_1) _ [9] (by decide +kernel) w h), List.forall_mem_append.mpr ⟨fun w h => ch_4 w (mem_r (big := tables_1_4) _ [237, 71, 233, 235, 64, 50] (by decide +kernel) w h), List.forall_mem_append.mpr ⟨fun w h => ch_5 w (mem_r (big := tables_1_5) _ [122, 124, 35, 39, 43, 47, 141, 143, 130, 133, 32, 28, 20] (by decide +kernel) w h), fun _ h => absurd h List.not_mem_nil⟩⟩⟩⟩
set_option maxRecDepth 100000 in
theorem itX8_fewest : ∀ w ∈ wsX8_fewest, w ∈ lw_tbl := List.forall_mem_cons.mpr ⟨ch_5 _ (List.mem_of_getElem? (l := tables_1_5) (i := 140) (by decide +kernel)), List.forall_mem_append.mpr ⟨itX8_fewest_o, List.forall_mem_append.mpr ⟨itX80, List.forall_mem_append.mpr ⟨itX8_isGate, List.forall_mem_append.mpr ⟨itX8_agreeing, List.forall_mem_append.mpr ⟨itX8_menFor, fun _ h => absurd h List.not_mem_nil⟩⟩⟩⟩⟩⟩
set_option maxRecDepth 100000 in
theorem gdX8_fewest_o : ∀ w ∈ wsX8_fewest_o, goodWord w = true := gd_o (by decide +kernel)
set_option maxRecDepth 100000 in
theorem gdX8_fewest : ∀ w ∈ wsX8_fewest, goodWord w = true := List.forall_mem_cons.mpr ⟨by decide +kernel, List.forall_mem_append.mpr ⟨gdX8_fewest_o, List.forall_mem_append.mpr ⟨gdX80, List.forall_mem_append.mpr ⟨gdX8_isGate, List.forall_mem_append.mpr ⟨gdX8_agreeing, List.forall_mem_append.mpr ⟨gdX8_menFor, fun _ h => absurd h List.not_mem_nil⟩⟩⟩⟩⟩⟩
def wsX8_march_o : List Cond := (([Cond.selects RX8 yX8_isGate yX8_isGate, Cond.selects RX8 yX8_isMissing yX8_isMissing, Cond.selects RX8 yX8_found yX8_found, Cond.selects RX8 yX8_isPart yX8_isPart, Cond.selects RX8 yX8_isWord yX8_isWord, Cond.selects RX8 yX8_isTakenNow yX8_isTakenNow, Cond.selects RX8 yX8_isTaken yX8_isTaken, Cond.selects RX8 yX8_guardOn yX8_guardOn, Cond.selects RX8 yX8_kindIn yX8_kindIn, Cond.selects RX8 yX8_takesBy yX8_takesBy, Cond.selects RX8 yX8_distance yX8_distance, Cond.selects RX8 yX8_lips yX8_lips, Cond.selects RX8 yX8_well yX8_well] : List Cond) ++ (([Cond.initialized RX8] : List Cond) ++ (([Cond.constant RX8 183 (-1000002), Cond.constant RX8 64 (-1000001), Cond.constant RX8 50 (-1000000), Cond.fieldLink RX8 16 "WrongWordModel" "items" "[I", Cond.methodLink RX8 180 yX8_isGate, Cond.instanceMethod yX8_isGate, Cond.fieldLink RX8 25 "WrongWordModel" "now" "[I", Cond.methodLink RX8 60 yX8_isRow, Cond.static yX8_isRow, Cond.methodLink RX8 56 yX8_in, Cond.static yX8_in, Cond.methodLink RX8 72 yX8_isMissing, Cond.instanceMethod yX8_isMissing, Cond.fieldLink RX8 7 "WrongWordModel" "lane" "[I", Cond.methodLink RX8 65 yX8_found, Cond.instanceMethod yX8_found, Cond.fieldLink RX8 51 "WrongWordModel" "status" "I", Cond.constant RX8 55 (-1000010), Cond.methodLink RX8 79 yX8_isPart, Cond.instanceMethod yX8_isPart, Cond.fieldLink RX8 13 "WrongWordModel" "many" "[I", Cond.methodLink RX8 69 yX8_well, Cond.instanceMethod yX8_well] : List Cond) ++ (([Cond.methodLink RX8 190 yX8_isWord, Cond.instanceMethod yX8_isWord, Cond.methodLink RX8 196 yX8_isTakenNow, Cond.instanceMethod yX8_isTakenNow, Cond.methodLink RX8 172 yX8_secretOf, Cond.methodLink RX8 176 yX8_isTaken, Cond.methodLink RX8 158 yX8_guardOn, Cond.methodLink RX8 161 yX8_has, Cond.methodLink RX8 165 yX8_kindIn, Cond.methodLink RX8 168 yX8_takesBy, Cond.methodLink RX8 152 yX8_distance, Cond.methodLink RX8 155 yX8_lips] : List Cond) ++ ([] : List Cond)))))
def wsX8_march : List Cond := .code yX8_march cX8_march 9 (some .int) :: (wsX8_march_o ++ (wsX80 ++ (wsX8_isGate ++ (wsX8_isRow ++ (wsX8_in ++ (wsX8_isMissing ++ (wsX8_found ++ (wsX8_isPart ++ (wsX8_isWord ++ (wsX8_isTakenNow ++ (wsX8_well ++ ([] : List Cond))))))))))))
set_option maxRecDepth 100000 in
theorem itX8_march_o : ∀ w ∈ wsX8_march_o, w ∈ lw_tbl := List.forall_mem_append.mpr ⟨fun w h => ch_0 w (mem_r (big := k2_sels lw_privs) _ [42, 29, 27, 30, 45, 47, 48, 46, 49, 50, 51, 52, 28] (by decide +kernel) w h), List.forall_mem_append.mpr ⟨fun w h => ch_1 w (mem_r (big := tables_1_1) _ [9] (by decide +kernel) w h), List.forall_mem_append.mpr ⟨fun w h => ch_4 w (mem_r (big := tables_1_4) _ [237, 132, 50, 53, 233, 235, 64, 126, 127, 129, 130, 146, 148, 51, 133, 135, 55, 137, 157, 159, 52, 138, 140] (by decide +kernel) w h), List.forall_mem_append.mpr ⟨fun w h => ch_5 w (mem_r (big := tables_1_5) _ [13, 15, 24, 26, 6, 28, 20, 32, 35, 39, 43, 47] (by decide +kernel) w h), fun _ h => absurd h List.not_mem_nil⟩⟩⟩⟩
set_option maxRecDepth 100000 in
theorem itX8_march : ∀ w ∈ wsX8_march, w ∈ lw_tbl := List.forall_mem_cons.mpr ⟨ch_5 _ (List.mem_of_getElem? (l := tables_1_5) (i := 148) (by decide +kernel)), List.forall_mem_append.mpr ⟨itX8_march_o, List.forall_mem_append.mpr ⟨itX80, List.forall_mem_append.mpr ⟨itX8_isGate, List.forall_mem_append.mpr ⟨itX8_isRow, List.forall_mem_append.mpr ⟨itX8_in, List.forall_mem_append.mpr ⟨itX8_isMissing, List.forall_mem_append.mpr ⟨itX8_found, List.forall_mem_append.mpr ⟨itX8_isPart, List.forall_mem_append.mpr ⟨itX8_isWord, List.forall_mem_append.mpr ⟨itX8_isTakenNow, List.forall_mem_append.mpr ⟨itX8_well, fun _ h => absurd h List.not_mem_nil⟩⟩⟩⟩⟩⟩⟩⟩⟩⟩⟩⟩
set_option maxRecDepth 100000 in
theorem gdX8_march_o : ∀ w ∈ wsX8_march_o, goodWord w = true := gd_o (by decide +kernel)
set_option maxRecDepth 100000 in
theorem gdX8_march : ∀ w ∈ wsX8_march, goodWord w = true := List.forall_mem_cons.mpr ⟨by decide +kernel, List.forall_mem_append.mpr ⟨gdX8_march_o, List.forall_mem_append.mpr ⟨gdX80, List.forall_mem_append.mpr ⟨gdX8_isGate, List.forall_mem_append.mpr ⟨gdX8_isRow, List.forall_mem_append.mpr ⟨gdX8_in, List.forall_mem_append.mpr ⟨gdX8_isMissing, List.forall_mem_append.mpr ⟨gdX8_found, List.forall_mem_append.mpr ⟨gdX8_isPart, List.forall_mem_append.mpr ⟨gdX8_isWord, List.forall_mem_append.mpr ⟨gdX8_isTakenNow, List.forall_mem_append.mpr ⟨gdX8_well, fun _ h => absurd h List.not_mem_nil⟩⟩⟩⟩⟩⟩⟩⟩⟩⟩⟩⟩
def wsX8_cheap_o : List Cond := (([Cond.selects RX8 yX8_isGate yX8_isGate, Cond.selects RX8 yX8_areWords yX8_areWords, Cond.selects RX8 yX8_areIn yX8_areIn, Cond.selects RX8 yX8_isTaken yX8_isTaken, Cond.selects RX8 yX8_guardOn yX8_guardOn, Cond.selects RX8 yX8_kindIn yX8_kindIn, Cond.selects RX8 yX8_takesBy yX8_takesBy, Cond.selects RX8 yX8_distance yX8_distance, Cond.selects RX8 yX8_lips yX8_lips] : List Cond) ++ (([Cond.initialized RX8] : List Cond) ++ (([Cond.constant RX8 183 (-1000002), Cond.constant RX8 64 (-1000001), Cond.constant RX8 50 (-1000000), Cond.fieldLink RX8 25 "WrongWordModel" "now" "[I", Cond.methodLink RX8 180 yX8_isGate, Cond.instanceMethod yX8_isGate, Cond.methodLink RX8 56 yX8_in, Cond.static yX8_in] : List Cond) ++ (([Cond.methodLink RX8 208 yX8_areWords, Cond.instanceMethod yX8_areWords, Cond.methodLink RX8 205 yX8_isFar, Cond.static yX8_isFar, Cond.methodLink RX8 161 yX8_has, Cond.static yX8_has, Cond.methodLink RX8 211 yX8_areIn, Cond.instanceMethod yX8_areIn, Cond.methodLink RX8 172 yX8_secretOf, Cond.methodLink RX8 176 yX8_isTaken, Cond.methodLink RX8 158 yX8_guardOn, Cond.methodLink RX8 165 yX8_kindIn, Cond.methodLink RX8 168 yX8_takesBy, Cond.methodLink RX8 152 yX8_distance, Cond.methodLink RX8 155 yX8_lips, Cond.methodLink RX8 217 yX8_ones, Cond.static yX8_ones] : List Cond) ++ ([] : List Cond)))))
def wsX8_cheap : List Cond := .code yX8_cheap cX8_cheap 10 (some .int) :: (wsX8_cheap_o ++ (wsX80 ++ (wsX8_isGate ++ (wsX8_areWords ++ (wsX8_isFar ++ (wsX8_in ++ (wsX8_has ++ (wsX8_areIn ++ (wsX8_ones ++ ([] : List Cond))))))))))
set_option maxRecDepth 100000 in
theorem itX8_cheap_o : ∀ w ∈ wsX8_cheap_o, w ∈ lw_tbl := List.forall_mem_append.mpr ⟨fun w h => ch_0 w (mem_r (big := k2_sels lw_privs) _ [42, 55, 56, 48, 46, 49, 50, 51, 52] (by decide +kernel) w h), List.forall_mem_append.mpr ⟨fun w h => ch_1 w (mem_r (big := tables_1_1) _ [9] (by decide +kernel) w h), List.forall_mem_append.mpr ⟨fun w h => ch_4 w (mem_r (big := tables_1_4) _ [237, 132, 50, 64, 233, 235, 129, 130] (by decide +kernel) w h), List.forall_mem_append.mpr ⟨fun w h => ch_5 w (mem_r (big := tables_1_5) _ [106, 108, 91, 92, 32, 33, 110, 112, 6, 28, 20, 35, 39, 43, 47, 130, 131] (by decide +kernel) w h), fun _ h => absurd h List.not_mem_nil⟩⟩⟩⟩
set_option maxRecDepth 100000 in
theorem itX8_cheap : ∀ w ∈ wsX8_cheap, w ∈ lw_tbl := List.forall_mem_cons.mpr ⟨ch_5 _ (List.mem_of_getElem? (l := tables_1_5) (i := 152) (by decide +kernel)), List.forall_mem_append.mpr ⟨itX8_cheap_o, List.forall_mem_append.mpr ⟨itX80, List.forall_mem_append.mpr ⟨itX8_isGate, List.forall_mem_append.mpr ⟨itX8_areWords, List.forall_mem_append.mpr ⟨itX8_isFar, List.forall_mem_append.mpr ⟨itX8_in, List.forall_mem_append.mpr ⟨itX8_has, List.forall_mem_append.mpr ⟨itX8_areIn, List.forall_mem_append.mpr ⟨itX8_ones, fun _ h => absurd h List.not_mem_nil⟩⟩⟩⟩⟩⟩⟩⟩⟩⟩
set_option maxRecDepth 100000 in
theorem gdX8_cheap_o : ∀ w ∈ wsX8_cheap_o, goodWord w = true := gd_o (by decide +kernel)
set_option maxRecDepth 100000 in
theorem gdX8_cheap : ∀ w ∈ wsX8_cheap, goodWord w = true := List.forall_mem_cons.mpr ⟨by decide +kernel, List.forall_mem_append.mpr ⟨gdX8_cheap_o, List.forall_mem_append.mpr ⟨gdX80, List.forall_mem_append.mpr ⟨gdX8_isGate, List.forall_mem_append.mpr ⟨gdX8_areWords, List.forall_mem_append.mpr ⟨gdX8_isFar, List.forall_mem_append.mpr ⟨gdX8_in, List.forall_mem_append.mpr ⟨gdX8_has, List.forall_mem_append.mpr ⟨gdX8_areIn, List.forall_mem_append.mpr ⟨gdX8_ones, fun _ h => absurd h List.not_mem_nil⟩⟩⟩⟩⟩⟩⟩⟩⟩⟩
def wsX8_near_o : List Cond := (([Cond.selects RX8 yX8_isWord yX8_isWord, Cond.selects RX8 yX8_distance yX8_distance] : List Cond) ++ (([Cond.initialized RX8] : List Cond) ++ (([Cond.constant RX8 64 (-1000001), Cond.constant RX8 50 (-1000000), Cond.fieldLink RX8 25 "WrongWordModel" "now" "[I", Cond.methodLink RX8 56 yX8_in, Cond.static yX8_in] : List Cond) ++ (([Cond.methodLink RX8 190 yX8_isWord, Cond.instanceMethod yX8_isWord, Cond.methodLink RX8 152 yX8_distance, Cond.instanceMethod yX8_distance] : List Cond) ++ ([] : List Cond)))))
def wsX8_near : List Cond := .code yX8_near cX8_near 5 (some .int) :: (wsX8_near_o ++ (wsX80 ++ (wsX8_isWord ++ (wsX8_in ++ (wsX8_distance ++ ([] : List Cond))))))
set_option maxRecDepth 100000 in
theorem itX8_near_o : ∀ w ∈ wsX8_near_o, w ∈ lw_tbl := List.forall_mem_append.mpr ⟨fun w h => ch_0 w (mem_r (big := k2_sels lw_privs) _ [45, 51] (by decide +kernel) w h), List.forall_mem_append.mpr ⟨fun w h => ch_1 w (mem_r (big := tables_1_1) _ [9] (by decide +kernel) w h), List.forall_mem_append.mpr ⟨fun w h => ch_4 w (mem_r (big := tables_1_4) _ [132, 50, 64, 129, 130] (by decide +kernel) w h), List.forall_mem_append.mpr ⟨fun w h => ch_5 w (mem_r (big := tables_1_5) _ [13, 15, 43, 45] (by decide +kernel) w h), fun _ h => absurd h List.not_mem_nil⟩⟩⟩⟩
set_option maxRecDepth 100000 in
theorem itX8_near : ∀ w ∈ wsX8_near, w ∈ lw_tbl := List.forall_mem_cons.mpr ⟨ch_5 _ (List.mem_of_getElem? (l := tables_1_5) (i := 156) (by decide +kernel)), List.forall_mem_append.mpr ⟨itX8_near_o, List.forall_mem_append.mpr ⟨itX80, List.forall_mem_append.mpr ⟨itX8_isWord, List.forall_mem_append.mpr ⟨itX8_in, List.forall_mem_append.mpr ⟨itX8_distance, fun _ h => absurd h List.not_mem_nil⟩⟩⟩⟩⟩⟩
set_option maxRecDepth 100000 in
theorem gdX8_near_o : ∀ w ∈ wsX8_near_o, goodWord w = true := gd_o (by decide +kernel)
set_option maxRecDepth 100000 in
theorem gdX8_near : ∀ w ∈ wsX8_near, goodWord w = true := List.forall_mem_cons.mpr ⟨by decide +kernel, List.forall_mem_append.mpr ⟨gdX8_near_o, List.forall_mem_append.mpr ⟨gdX80, List.forall_mem_append.mpr ⟨gdX8_isWord, List.forall_mem_append.mpr ⟨gdX8_in, List.forall_mem_append.mpr ⟨gdX8_distance, fun _ h => absurd h List.not_mem_nil⟩⟩⟩⟩⟩⟩
def wsX8_rules_o : List Cond := (([Cond.selects RX8 yX8_isGate yX8_isGate, Cond.selects RX8 yX8_isMissing yX8_isMissing, Cond.selects RX8 yX8_found yX8_found, Cond.selects RX8 yX8_isPart yX8_isPart, Cond.selects RX8 yX8_well yX8_well] : List Cond) ++ (([Cond.initialized RX8] : List Cond) ++ (([Cond.constant RX8 183 (-1000002), Cond.constant RX8 64 (-1000001), Cond.fieldLink RX8 25 "WrongWordModel" "now" "[I", Cond.fieldLink RX8 31 "WrongWordModel" "tried" "[I", Cond.fieldLink RX8 16 "WrongWordModel" "items" "[I", Cond.methodLink RX8 180 yX8_isGate, Cond.instanceMethod yX8_isGate, Cond.methodLink RX8 60 yX8_isRow, Cond.static yX8_isRow, Cond.methodLink RX8 56 yX8_in, Cond.static yX8_in, Cond.methodLink RX8 72 yX8_isMissing, Cond.instanceMethod yX8_isMissing, Cond.fieldLink RX8 7 "WrongWordModel" "lane" "[I", Cond.constant RX8 50 (-1000000), Cond.methodLink RX8 65 yX8_found, Cond.instanceMethod yX8_found, Cond.fieldLink RX8 51 "WrongWordModel" "status" "I", Cond.constant RX8 55 (-1000010), Cond.methodLink RX8 79 yX8_isPart, Cond.instanceMethod yX8_isPart, Cond.fieldLink RX8 13 "WrongWordModel" "many" "[I", Cond.methodLink RX8 145 yX8_copies, Cond.static yX8_copies, Cond.methodLink RX8 69 yX8_well, Cond.instanceMethod yX8_well] : List Cond) ++ (([Cond.methodLink RX8 172 yX8_secretOf, Cond.static yX8_secretOf] : List Cond) ++ ([] : List Cond)))))
def wsX8_rules : List Cond := .code yX8_rules cX8_rules 9 (some .int) :: (wsX8_rules_o ++ (wsX80 ++ (wsX8_isGate ++ (wsX8_isRow ++ (wsX8_in ++ (wsX8_isMissing ++ (wsX8_found ++ (wsX8_isPart ++ (wsX8_copies ++ (wsX8_secretOf ++ (wsX8_well ++ ([] : List Cond))))))))))))
set_option maxRecDepth 100000 in
theorem itX8_rules_o : ∀ w ∈ wsX8_rules_o, w ∈ lw_tbl := List.forall_mem_append.mpr ⟨fun w h => ch_0 w (mem_r (big := k2_sels lw_privs) _ [42, 29, 27, 30, 28] (by decide +kernel) w h), List.forall_mem_append.mpr ⟨fun w h => ch_1 w (mem_r (big := tables_1_1) _ [9] (by decide +kernel) w h), List.forall_mem_append.mpr ⟨fun w h => ch_4 w (mem_r (big := tables_1_4) _ [237, 132, 64, 66, 53, 233, 235, 126, 127, 129, 130, 146, 148, 51, 50, 133, 135, 55, 137, 157, 159, 52, 222, 223, 138, 140] (by decide +kernel) w h), List.forall_mem_append.mpr ⟨fun w h => ch_5 w (mem_r (big := tables_1_5) _ [6, 7] (by decide +kernel) w h), fun _ h => absurd h List.not_mem_nil⟩⟩⟩⟩
set_option maxRecDepth 100000 in
theorem itX8_rules : ∀ w ∈ wsX8_rules, w ∈ lw_tbl := List.forall_mem_cons.mpr ⟨ch_5 _ (List.mem_of_getElem? (l := tables_1_5) (i := 160) (by decide +kernel)), List.forall_mem_append.mpr ⟨itX8_rules_o, List.forall_mem_append.mpr ⟨itX80, List.forall_mem_append.mpr ⟨itX8_isGate, List.forall_mem_append.mpr ⟨itX8_isRow, List.forall_mem_append.mpr ⟨itX8_in, List.forall_mem_append.mpr ⟨itX8_isMissing, List.forall_mem_append.mpr ⟨itX8_found, List.forall_mem_append.mpr ⟨itX8_isPart, List.forall_mem_append.mpr ⟨itX8_copies, List.forall_mem_append.mpr ⟨itX8_secretOf, List.forall_mem_append.mpr ⟨itX8_well, fun _ h => absurd h List.not_mem_nil⟩⟩⟩⟩⟩⟩⟩⟩⟩⟩⟩⟩
set_option maxRecDepth 100000 in
theorem gdX8_rules_o : ∀ w ∈ wsX8_rules_o, goodWord w = true := gd_o (by decide +kernel)
set_option maxRecDepth 100000 in
theorem gdX8_rules : ∀ w ∈ wsX8_rules, goodWord w = true := List.forall_mem_cons.mpr ⟨by decide +kernel, List.forall_mem_append.mpr ⟨gdX8_rules_o, List.forall_mem_append.mpr ⟨gdX80, List.forall_mem_append.mpr ⟨gdX8_isGate, List.forall_mem_append.mpr ⟨gdX8_isRow, List.forall_mem_append.mpr ⟨gdX8_in, List.forall_mem_append.mpr ⟨gdX8_isMissing, List.forall_mem_append.mpr ⟨gdX8_found, List.forall_mem_append.mpr ⟨gdX8_isPart, List.forall_mem_append.mpr ⟨gdX8_copies, List.forall_mem_append.mpr ⟨gdX8_secretOf, List.forall_mem_append.mpr ⟨gdX8_well, fun _ h => absurd h List.not_mem_nil⟩⟩⟩⟩⟩⟩⟩⟩⟩⟩⟩⟩
def wsX8_takesSo_o : List Cond := (([Cond.selects RX8 yX8_takesBy yX8_takesBy, Cond.selects RX8 yX8_distance yX8_distance, Cond.selects RX8 yX8_lips yX8_lips] : List Cond) ++ (([Cond.initialized RX8] : List Cond) ++ (([Cond.fieldLink RX8 25 "WrongWordModel" "now" "[I", Cond.fieldLink RX8 16 "WrongWordModel" "items" "[I"] : List Cond) ++ (([Cond.methodLink RX8 168 yX8_takesBy, Cond.instanceMethod yX8_takesBy, Cond.methodLink RX8 152 yX8_distance, Cond.methodLink RX8 155 yX8_lips] : List Cond) ++ ([] : List Cond)))))
def wsX8_takesSo : List Cond := .code yX8_takesSo cX8_takesSo 6 (some .boolean) :: (wsX8_takesSo_o ++ (wsX80 ++ (wsX8_takesBy ++ ([] : List Cond))))
set_option maxRecDepth 100000 in
theorem itX8_takesSo_o : ∀ w ∈ wsX8_takesSo_o, w ∈ lw_tbl := List.forall_mem_append.mpr ⟨fun w h => ch_0 w (mem_r (big := k2_sels lw_privs) _ [50, 51, 52] (by decide +kernel) w h), List.forall_mem_append.mpr ⟨fun w h => ch_1 w (mem_r (big := tables_1_1) _ [9] (by decide +kernel) w h), List.forall_mem_append.mpr ⟨fun w h => ch_4 w (mem_r (big := tables_1_4) _ [64, 53] (by decide +kernel) w h), List.forall_mem_append.mpr ⟨fun w h => ch_5 w (mem_r (big := tables_1_5) _ [39, 41, 43, 47] (by decide +kernel) w h), fun _ h => absurd h List.not_mem_nil⟩⟩⟩⟩
set_option maxRecDepth 100000 in
theorem itX8_takesSo : ∀ w ∈ wsX8_takesSo, w ∈ lw_tbl := List.forall_mem_cons.mpr ⟨ch_5 _ (List.mem_of_getElem? (l := tables_1_5) (i := 168) (by decide +kernel)), List.forall_mem_append.mpr ⟨itX8_takesSo_o, List.forall_mem_append.mpr ⟨itX80, List.forall_mem_append.mpr ⟨itX8_takesBy, fun _ h => absurd h List.not_mem_nil⟩⟩⟩⟩
set_option maxRecDepth 100000 in
theorem gdX8_takesSo_o : ∀ w ∈ wsX8_takesSo_o, goodWord w = true := gd_o (by decide +kernel)
set_option maxRecDepth 100000 in
theorem gdX8_takesSo : ∀ w ∈ wsX8_takesSo, goodWord w = true := List.forall_mem_cons.mpr ⟨by decide +kernel, List.forall_mem_append.mpr ⟨gdX8_takesSo_o, List.forall_mem_append.mpr ⟨gdX80, List.forall_mem_append.mpr ⟨gdX8_takesBy, fun _ h => absurd h List.not_mem_nil⟩⟩⟩⟩
def wsX8_fits_o : List Cond := (([Cond.selects RX8 yX8_isGuard yX8_isGuard, Cond.selects RX8 yX8_isMissing yX8_isMissing, Cond.selects RX8 yX8_found yX8_found, Cond.selects RX8 yX8_isPart yX8_isPart, Cond.selects RX8 yX8_takesSo yX8_takesSo, Cond.selects RX8 yX8_takesBy yX8_takesBy, Cond.selects RX8 yX8_distance yX8_distance, Cond.selects RX8 yX8_lips yX8_lips, Cond.selects RX8 yX8_kindIn yX8_kindIn, Cond.selects RX8 yX8_well yX8_well] : List Cond) ++ (([Cond.initialized RX8] : List Cond) ++ (([Cond.constant RX8 64 (-1000001), Cond.fieldLink RX8 25 "WrongWordModel" "now" "[I", Cond.methodLink RX8 56 yX8_in, Cond.static yX8_in, Cond.methodLink RX8 60 yX8_isRow, Cond.static yX8_isRow, Cond.methodLink RX8 72 yX8_isMissing, Cond.instanceMethod yX8_isMissing, Cond.fieldLink RX8 7 "WrongWordModel" "lane" "[I", Cond.constant RX8 50 (-1000000), Cond.methodLink RX8 65 yX8_found, Cond.instanceMethod yX8_found, Cond.fieldLink RX8 51 "WrongWordModel" "status" "I", Cond.constant RX8 55 (-1000010), Cond.methodLink RX8 79 yX8_isPart, Cond.instanceMethod yX8_isPart, Cond.fieldLink RX8 13 "WrongWordModel" "many" "[I", Cond.fieldLink RX8 16 "WrongWordModel" "items" "[I", Cond.methodLink RX8 69 yX8_well, Cond.instanceMethod yX8_well] : List Cond) ++ (([Cond.methodLink RX8 199 yX8_isGuard, Cond.instanceMethod yX8_isGuard, Cond.methodLink RX8 172 yX8_secretOf, Cond.static yX8_secretOf, Cond.methodLink RX8 227 yX8_takesSo, Cond.instanceMethod yX8_takesSo, Cond.methodLink RX8 168 yX8_takesBy, Cond.methodLink RX8 152 yX8_distance, Cond.methodLink RX8 155 yX8_lips, Cond.methodLink RX8 165 yX8_kindIn, Cond.instanceMethod yX8_kindIn] : List Cond) ++ ([] : List Cond)))))
def wsX8_fits : List Cond := .code yX8_fits cX8_fits 8 (some .int) :: (wsX8_fits_o ++ (wsX80 ++ (wsX8_isGuard ++ (wsX8_isRow ++ (wsX8_in ++ (wsX8_isMissing ++ (wsX8_found ++ (wsX8_isPart ++ (wsX8_secretOf ++ (wsX8_takesSo ++ (wsX8_kindIn ++ (wsX8_well ++ ([] : List Cond)))))))))))))
set_option maxRecDepth 100000 in
theorem itX8_fits_o : ∀ w ∈ wsX8_fits_o, w ∈ lw_tbl := List.forall_mem_append.mpr ⟨fun w h => ch_0 w (mem_r (big := k2_sels lw_privs) _ [53, 29, 27, 30, 60, 50, 51, 52, 49, 28] (by decide +kernel) w h), List.forall_mem_append.mpr ⟨fun w h => ch_1 w (mem_r (big := tables_1_1) _ [9] (by decide +kernel) w h), List.forall_mem_append.mpr ⟨fun w h => ch_4 w (mem_r (big := tables_1_4) _ [132, 64, 129, 130, 126, 127, 146, 148, 51, 50, 133, 135, 55, 137, 157, 159, 52, 53, 138, 140] (by decide +kernel) w h), List.forall_mem_append.mpr ⟨fun w h => ch_5 w (mem_r (big := tables_1_5) _ [59, 61, 6, 7, 165, 167, 39, 43, 47, 35, 37] (by decide +kernel) w h), fun _ h => absurd h List.not_mem_nil⟩⟩⟩⟩
set_option maxRecDepth 100000 in
theorem itX8_fits : ∀ w ∈ wsX8_fits, w ∈ lw_tbl := List.forall_mem_cons.mpr ⟨ch_5 _ (List.mem_of_getElem? (l := tables_1_5) (i := 164) (by decide +kernel)), List.forall_mem_append.mpr ⟨itX8_fits_o, List.forall_mem_append.mpr ⟨itX80, List.forall_mem_append.mpr ⟨itX8_isGuard, List.forall_mem_append.mpr ⟨itX8_isRow, List.forall_mem_append.mpr ⟨itX8_in, List.forall_mem_append.mpr ⟨itX8_isMissing, List.forall_mem_append.mpr ⟨itX8_found, List.forall_mem_append.mpr ⟨itX8_isPart, List.forall_mem_append.mpr ⟨itX8_secretOf, List.forall_mem_append.mpr ⟨itX8_takesSo, List.forall_mem_append.mpr ⟨itX8_kindIn, List.forall_mem_append.mpr ⟨itX8_well, fun _ h => absurd h List.not_mem_nil⟩⟩⟩⟩⟩⟩⟩⟩⟩⟩⟩⟩⟩
set_option maxRecDepth 100000 in
theorem gdX8_fits_o : ∀ w ∈ wsX8_fits_o, goodWord w = true := gd_o (by decide +kernel)
set_option maxRecDepth 100000 in
theorem gdX8_fits : ∀ w ∈ wsX8_fits, goodWord w = true := List.forall_mem_cons.mpr ⟨by decide +kernel, List.forall_mem_append.mpr ⟨gdX8_fits_o, List.forall_mem_append.mpr ⟨gdX80, List.forall_mem_append.mpr ⟨gdX8_isGuard, List.forall_mem_append.mpr ⟨gdX8_isRow, List.forall_mem_append.mpr ⟨gdX8_in, List.forall_mem_append.mpr ⟨gdX8_isMissing, List.forall_mem_append.mpr ⟨gdX8_found, List.forall_mem_append.mpr ⟨gdX8_isPart, List.forall_mem_append.mpr ⟨gdX8_secretOf, List.forall_mem_append.mpr ⟨gdX8_takesSo, List.forall_mem_append.mpr ⟨gdX8_kindIn, List.forall_mem_append.mpr ⟨gdX8_well, fun _ h => absurd h List.not_mem_nil⟩⟩⟩⟩⟩⟩⟩⟩⟩⟩⟩⟩⟩
def wsX8_sure_o : List Cond := (([Cond.selects RX8 yX8_isWord yX8_isWord, Cond.selects RX8 yX8_agreeing yX8_agreeing, Cond.selects RX8 yX8_kindIn yX8_kindIn, Cond.selects RX8 yX8_takesBy yX8_takesBy, Cond.selects RX8 yX8_distance yX8_distance, Cond.selects RX8 yX8_lips yX8_lips, Cond.selects RX8 yX8_takenOf yX8_takenOf, Cond.selects RX8 yX8_isTaken yX8_isTaken, Cond.selects RX8 yX8_guardOn yX8_guardOn] : List Cond) ++ (([Cond.initialized RX8] : List Cond) ++ (([Cond.constant RX8 64 (-1000001), Cond.fieldLink RX8 25 "WrongWordModel" "now" "[I", Cond.methodLink RX8 56 yX8_in, Cond.static yX8_in] : List Cond) ++ (([Cond.methodLink RX8 190 yX8_isWord, Cond.instanceMethod yX8_isWord, Cond.methodLink RX8 193 yX8_isHour, Cond.static yX8_isHour, Cond.methodLink RX8 214 yX8_agreeing, Cond.instanceMethod yX8_agreeing, Cond.methodLink RX8 165 yX8_kindIn, Cond.methodLink RX8 168 yX8_takesBy, Cond.methodLink RX8 152 yX8_distance, Cond.methodLink RX8 155 yX8_lips, Cond.methodLink RX8 220 yX8_takenOf, Cond.instanceMethod yX8_takenOf, Cond.methodLink RX8 161 yX8_has, Cond.methodLink RX8 176 yX8_isTaken, Cond.methodLink RX8 158 yX8_guardOn, Cond.methodLink RX8 217 yX8_ones, Cond.static yX8_ones] : List Cond) ++ ([] : List Cond)))))
def wsX8_sure : List Cond := .code yX8_sure cX8_sure 12 (some .int) :: (wsX8_sure_o ++ (wsX80 ++ (wsX8_isWord ++ (wsX8_isHour ++ (wsX8_in ++ (wsX8_agreeing ++ (wsX8_takenOf ++ (wsX8_ones ++ ([] : List Cond)))))))))
set_option maxRecDepth 100000 in
theorem itX8_sure_o : ∀ w ∈ wsX8_sure_o, w ∈ lw_tbl := List.forall_mem_append.mpr ⟨fun w h => ch_0 w (mem_r (big := k2_sels lw_privs) _ [45, 57, 49, 50, 51, 52, 58, 48, 46] (by decide +kernel) w h), List.forall_mem_append.mpr ⟨fun w h => ch_1 w (mem_r (big := tables_1_1) _ [9] (by decide +kernel) w h), List.forall_mem_append.mpr ⟨fun w h => ch_4 w (mem_r (big := tables_1_4) _ [132, 64, 129, 130] (by decide +kernel) w h), List.forall_mem_append.mpr ⟨fun w h => ch_5 w (mem_r (big := tables_1_5) _ [13, 15, 17, 18, 122, 124, 35, 39, 43, 47, 133, 135, 32, 28, 20, 130, 131] (by decide +kernel) w h), fun _ h => absurd h List.not_mem_nil⟩⟩⟩⟩
set_option maxRecDepth 100000 in
theorem itX8_sure : ∀ w ∈ wsX8_sure, w ∈ lw_tbl := List.forall_mem_cons.mpr ⟨ch_5 _ (List.mem_of_getElem? (l := tables_1_5) (i := 172) (by decide +kernel)), List.forall_mem_append.mpr ⟨itX8_sure_o, List.forall_mem_append.mpr ⟨itX80, List.forall_mem_append.mpr ⟨itX8_isWord, List.forall_mem_append.mpr ⟨itX8_isHour, List.forall_mem_append.mpr ⟨itX8_in, List.forall_mem_append.mpr ⟨itX8_agreeing, List.forall_mem_append.mpr ⟨itX8_takenOf, List.forall_mem_append.mpr ⟨itX8_ones, fun _ h => absurd h List.not_mem_nil⟩⟩⟩⟩⟩⟩⟩⟩⟩
set_option maxRecDepth 100000 in
theorem gdX8_sure_o : ∀ w ∈ wsX8_sure_o, goodWord w = true := gd_o (by decide +kernel)
set_option maxRecDepth 100000 in
theorem gdX8_sure : ∀ w ∈ wsX8_sure, goodWord w = true := List.forall_mem_cons.mpr ⟨by decide +kernel, List.forall_mem_append.mpr ⟨gdX8_sure_o, List.forall_mem_append.mpr ⟨gdX80, List.forall_mem_append.mpr ⟨gdX8_isWord, List.forall_mem_append.mpr ⟨gdX8_isHour, List.forall_mem_append.mpr ⟨gdX8_in, List.forall_mem_append.mpr ⟨gdX8_agreeing, List.forall_mem_append.mpr ⟨gdX8_takenOf, List.forall_mem_append.mpr ⟨gdX8_ones, fun _ h => absurd h List.not_mem_nil⟩⟩⟩⟩⟩⟩⟩⟩⟩
def wsX8_drawn_o : List Cond := (([Cond.selects RX8 yX8_isGate yX8_isGate, Cond.selects RX8 yX8_isTakenNow yX8_isTakenNow, Cond.selects RX8 yX8_isTaken yX8_isTaken, Cond.selects RX8 yX8_guardOn yX8_guardOn, Cond.selects RX8 yX8_kindIn yX8_kindIn, Cond.selects RX8 yX8_takesBy yX8_takesBy, Cond.selects RX8 yX8_distance yX8_distance, Cond.selects RX8 yX8_lips yX8_lips] : List Cond) ++ (([Cond.initialized RX8] : List Cond) ++ (([Cond.constant RX8 183 (-1000002), Cond.constant RX8 64 (-1000001), Cond.fieldLink RX8 25 "WrongWordModel" "now" "[I", Cond.methodLink RX8 180 yX8_isGate, Cond.instanceMethod yX8_isGate, Cond.methodLink RX8 56 yX8_in, Cond.static yX8_in] : List Cond) ++ (([Cond.constant RX8 230 (999999), Cond.constantLong RX8 231 (16807), Cond.constantLong RX8 233 (2147483647), Cond.constantLong RX8 235 (6), Cond.methodLink RX8 205 yX8_isFar, Cond.static yX8_isFar, Cond.methodLink RX8 196 yX8_isTakenNow, Cond.instanceMethod yX8_isTakenNow, Cond.methodLink RX8 172 yX8_secretOf, Cond.methodLink RX8 176 yX8_isTaken, Cond.methodLink RX8 158 yX8_guardOn, Cond.methodLink RX8 161 yX8_has, Cond.methodLink RX8 165 yX8_kindIn, Cond.methodLink RX8 168 yX8_takesBy, Cond.methodLink RX8 152 yX8_distance, Cond.methodLink RX8 155 yX8_lips] : List Cond) ++ ([] : List Cond)))))
def wsX8_drawn : List Cond := .code yX8_drawn cX8_drawn 11 (some .int) :: (wsX8_drawn_o ++ (wsX80 ++ (wsX8_isGate ++ (wsX8_isFar ++ (wsX8_in ++ (wsX8_isTakenNow ++ ([] : List Cond)))))))
set_option maxRecDepth 100000 in
theorem itX8_drawn_o : ∀ w ∈ wsX8_drawn_o, w ∈ lw_tbl := List.forall_mem_append.mpr ⟨fun w h => ch_0 w (mem_r (big := k2_sels lw_privs) _ [42, 47, 48, 46, 49, 50, 51, 52] (by decide +kernel) w h), List.forall_mem_append.mpr ⟨fun w h => ch_1 w (mem_r (big := tables_1_1) _ [9] (by decide +kernel) w h), List.forall_mem_append.mpr ⟨fun w h => ch_4 w (mem_r (big := tables_1_4) _ [237, 132, 64, 233, 235, 129, 130] (by decide +kernel) w h), List.forall_mem_append.mpr ⟨fun w h => ch_5 w (mem_r (big := tables_1_5) _ [177, 178, 179, 180, 91, 92, 24, 26, 6, 28, 20, 32, 35, 39, 43, 47] (by decide +kernel) w h), fun _ h => absurd h List.not_mem_nil⟩⟩⟩⟩
set_option maxRecDepth 100000 in
theorem itX8_drawn : ∀ w ∈ wsX8_drawn, w ∈ lw_tbl := List.forall_mem_cons.mpr ⟨ch_5 _ (List.mem_of_getElem? (l := tables_1_5) (i := 176) (by decide +kernel)), List.forall_mem_append.mpr ⟨itX8_drawn_o, List.forall_mem_append.mpr ⟨itX80, List.forall_mem_append.mpr ⟨itX8_isGate, List.forall_mem_append.mpr ⟨itX8_isFar, List.forall_mem_append.mpr ⟨itX8_in, List.forall_mem_append.mpr ⟨itX8_isTakenNow, fun _ h => absurd h List.not_mem_nil⟩⟩⟩⟩⟩⟩⟩
set_option maxRecDepth 100000 in
theorem gdX8_drawn_o : ∀ w ∈ wsX8_drawn_o, goodWord w = true := gd_o (by decide +kernel)
set_option maxRecDepth 100000 in
theorem gdX8_drawn : ∀ w ∈ wsX8_drawn, goodWord w = true := List.forall_mem_cons.mpr ⟨by decide +kernel, List.forall_mem_append.mpr ⟨gdX8_drawn_o, List.forall_mem_append.mpr ⟨gdX80, List.forall_mem_append.mpr ⟨gdX8_isGate, List.forall_mem_append.mpr ⟨gdX8_isFar, List.forall_mem_append.mpr ⟨gdX8_in, List.forall_mem_append.mpr ⟨gdX8_isTakenNow, fun _ h => absurd h List.not_mem_nil⟩⟩⟩⟩⟩⟩⟩
def wsX8_image_o : List Cond := (([Cond.selects RX8 yX8_isGate yX8_isGate] : List Cond) ++ (([Cond.initialized RX8] : List Cond) ++ (([Cond.constant RX8 64 (-1000001), Cond.constant RX8 183 (-1000002), Cond.fieldLink RX8 25 "WrongWordModel" "now" "[I", Cond.fieldLink RX8 37 "WrongWordModel" "images" "[I", Cond.fieldLink RX8 40 "WrongWordModel" "kept" "[Z", Cond.methodLink RX8 56 yX8_in, Cond.static yX8_in, Cond.methodLink RX8 180 yX8_isGate, Cond.instanceMethod yX8_isGate, Cond.methodLink RX8 145 yX8_copies, Cond.static yX8_copies] : List Cond) ++ ([] : List Cond))))
def wsX8_image : List Cond := .code yX8_image cX8_image 2 (some .int) :: (wsX8_image_o ++ (wsX80 ++ (wsX8_in ++ (wsX8_isGate ++ (wsX8_copies ++ ([] : List Cond))))))
set_option maxRecDepth 100000 in
theorem itX8_image_o : ∀ w ∈ wsX8_image_o, w ∈ lw_tbl := List.forall_mem_append.mpr ⟨fun w h => ch_0 w (mem_r (big := k2_sels lw_privs) _ [42] (by decide +kernel) w h), List.forall_mem_append.mpr ⟨fun w h => ch_1 w (mem_r (big := tables_1_1) _ [9] (by decide +kernel) w h), List.forall_mem_append.mpr ⟨fun w h => ch_4 w (mem_r (big := tables_1_4) _ [132, 237, 64, 69, 70, 129, 130, 233, 235, 222, 223] (by decide +kernel) w h), fun _ h => absurd h List.not_mem_nil⟩⟩⟩
set_option maxRecDepth 100000 in
theorem itX8_image : ∀ w ∈ wsX8_image, w ∈ lw_tbl := List.forall_mem_cons.mpr ⟨ch_5 _ (List.mem_of_getElem? (l := tables_1_5) (i := 184) (by decide +kernel)), List.forall_mem_append.mpr ⟨itX8_image_o, List.forall_mem_append.mpr ⟨itX80, List.forall_mem_append.mpr ⟨itX8_in, List.forall_mem_append.mpr ⟨itX8_isGate, List.forall_mem_append.mpr ⟨itX8_copies, fun _ h => absurd h List.not_mem_nil⟩⟩⟩⟩⟩⟩
set_option maxRecDepth 100000 in
theorem gdX8_image_o : ∀ w ∈ wsX8_image_o, goodWord w = true := gd_o (by decide +kernel)
set_option maxRecDepth 100000 in
theorem gdX8_image : ∀ w ∈ wsX8_image, goodWord w = true := List.forall_mem_cons.mpr ⟨by decide +kernel, List.forall_mem_append.mpr ⟨gdX8_image_o, List.forall_mem_append.mpr ⟨gdX80, List.forall_mem_append.mpr ⟨gdX8_in, List.forall_mem_append.mpr ⟨gdX8_isGate, List.forall_mem_append.mpr ⟨gdX8_copies, fun _ h => absurd h List.not_mem_nil⟩⟩⟩⟩⟩⟩
def wsX8_restore_o : List Cond := (([Cond.initialized RX8] : List Cond) ++ (([Cond.constant RX8 64 (-1000001), Cond.fieldLink RX8 40 "WrongWordModel" "kept" "[Z", Cond.constant RX8 183 (-1000002), Cond.fieldLink RX8 37 "WrongWordModel" "images" "[I", Cond.fieldLink RX8 25 "WrongWordModel" "now" "[I", Cond.fieldLink RX8 149 "WrongWordModel" "acts" "I", Cond.methodLink RX8 56 yX8_in, Cond.static yX8_in, Cond.methodLink RX8 145 yX8_copies, Cond.static yX8_copies] : List Cond) ++ ([] : List Cond)))
def wsX8_restore : List Cond := .code yX8_restore cX8_restore 2 (some .int) :: (wsX8_restore_o ++ (wsX80 ++ (wsX8_in ++ (wsX8_copies ++ ([] : List Cond)))))
set_option maxRecDepth 100000 in
theorem itX8_restore_o : ∀ w ∈ wsX8_restore_o, w ∈ lw_tbl := List.forall_mem_append.mpr ⟨fun w h => ch_1 w (mem_r (big := tables_1_1) _ [9] (by decide +kernel) w h), List.forall_mem_append.mpr ⟨fun w h => ch_4 w (mem_r (big := tables_1_4) _ [132, 70, 237, 69, 64, 68, 129, 130, 222, 223] (by decide +kernel) w h), fun _ h => absurd h List.not_mem_nil⟩⟩
set_option maxRecDepth 100000 in
theorem itX8_restore : ∀ w ∈ wsX8_restore, w ∈ lw_tbl := List.forall_mem_cons.mpr ⟨ch_5 _ (List.mem_of_getElem? (l := tables_1_5) (i := 188) (by decide +kernel)), List.forall_mem_append.mpr ⟨itX8_restore_o, List.forall_mem_append.mpr ⟨itX80, List.forall_mem_append.mpr ⟨itX8_in, List.forall_mem_append.mpr ⟨itX8_copies, fun _ h => absurd h List.not_mem_nil⟩⟩⟩⟩⟩
set_option maxRecDepth 100000 in
theorem gdX8_restore_o : ∀ w ∈ wsX8_restore_o, goodWord w = true := gd_o (by decide +kernel)
set_option maxRecDepth 100000 in
theorem gdX8_restore : ∀ w ∈ wsX8_restore, goodWord w = true := List.forall_mem_cons.mpr ⟨by decide +kernel, List.forall_mem_append.mpr ⟨gdX8_restore_o, List.forall_mem_append.mpr ⟨gdX80, List.forall_mem_append.mpr ⟨gdX8_in, List.forall_mem_append.mpr ⟨gdX8_copies, fun _ h => absurd h List.not_mem_nil⟩⟩⟩⟩⟩
def wsX8_kind_o : List Cond := (([Cond.selects RX8 yX8_isGuard yX8_isGuard, Cond.selects RX8 yX8_kindIn yX8_kindIn] : List Cond) ++ (([Cond.initialized RX8] : List Cond) ++ (([Cond.constant RX8 64 (-1000001), Cond.fieldLink RX8 25 "WrongWordModel" "now" "[I", Cond.methodLink RX8 56 yX8_in] : List Cond) ++ (([Cond.methodLink RX8 199 yX8_isGuard, Cond.instanceMethod yX8_isGuard, Cond.methodLink RX8 165 yX8_kindIn, Cond.instanceMethod yX8_kindIn] : List Cond) ++ ([] : List Cond)))))
def wsX8_kind : List Cond := .code yX8_kind cX8_kind 2 (some .int) :: (wsX8_kind_o ++ (wsX80 ++ (wsX8_isGuard ++ (wsX8_kindIn ++ ([] : List Cond)))))
set_option maxRecDepth 100000 in
theorem itX8_kind_o : ∀ w ∈ wsX8_kind_o, w ∈ lw_tbl := List.forall_mem_append.mpr ⟨fun w h => ch_0 w (mem_r (big := k2_sels lw_privs) _ [53, 49] (by decide +kernel) w h), List.forall_mem_append.mpr ⟨fun w h => ch_1 w (mem_r (big := tables_1_1) _ [9] (by decide +kernel) w h), List.forall_mem_append.mpr ⟨fun w h => ch_4 w (mem_r (big := tables_1_4) _ [132, 64, 129] (by decide +kernel) w h), List.forall_mem_append.mpr ⟨fun w h => ch_5 w (mem_r (big := tables_1_5) _ [59, 61, 35, 37] (by decide +kernel) w h), fun _ h => absurd h List.not_mem_nil⟩⟩⟩⟩
set_option maxRecDepth 100000 in
theorem itX8_kind : ∀ w ∈ wsX8_kind, w ∈ lw_tbl := List.forall_mem_cons.mpr ⟨ch_5 _ (List.mem_of_getElem? (l := tables_1_5) (i := 192) (by decide +kernel)), List.forall_mem_append.mpr ⟨itX8_kind_o, List.forall_mem_append.mpr ⟨itX80, List.forall_mem_append.mpr ⟨itX8_isGuard, List.forall_mem_append.mpr ⟨itX8_kindIn, fun _ h => absurd h List.not_mem_nil⟩⟩⟩⟩⟩
set_option maxRecDepth 100000 in
theorem gdX8_kind_o : ∀ w ∈ wsX8_kind_o, goodWord w = true := gd_o (by decide +kernel)
set_option maxRecDepth 100000 in
theorem gdX8_kind : ∀ w ∈ wsX8_kind, goodWord w = true := List.forall_mem_cons.mpr ⟨by decide +kernel, List.forall_mem_append.mpr ⟨gdX8_kind_o, List.forall_mem_append.mpr ⟨gdX80, List.forall_mem_append.mpr ⟨gdX8_isGuard, List.forall_mem_append.mpr ⟨gdX8_kindIn, fun _ h => absurd h List.not_mem_nil⟩⟩⟩⟩⟩
def wsX8_as_o : List Cond := (([Cond.selects RX8 yX8_isGuard yX8_isGuard, Cond.selects RX8 yX8_kindIn yX8_kindIn, Cond.selects RX8 yX8_well yX8_well, Cond.selects RX8 yX8_found yX8_found] : List Cond) ++ (([Cond.initialized RX8] : List Cond) ++ (([Cond.constant RX8 64 (-1000001), Cond.fieldLink RX8 25 "WrongWordModel" "now" "[I", Cond.methodLink RX8 56 yX8_in, Cond.static yX8_in, Cond.methodLink RX8 69 yX8_well, Cond.instanceMethod yX8_well, Cond.fieldLink RX8 51 "WrongWordModel" "status" "I", Cond.methodLink RX8 65 yX8_found, Cond.instanceMethod yX8_found, Cond.constant RX8 55 (-1000010)] : List Cond) ++ (([Cond.methodLink RX8 199 yX8_isGuard, Cond.instanceMethod yX8_isGuard, Cond.methodLink RX8 165 yX8_kindIn, Cond.instanceMethod yX8_kindIn] : List Cond) ++ ([] : List Cond)))))
def wsX8_as : List Cond := .code yX8_as cX8_as 5 (some .int) :: (wsX8_as_o ++ (wsX80 ++ (wsX8_isGuard ++ (wsX8_in ++ (wsX8_kindIn ++ (wsX8_well ++ (wsX8_found ++ ([] : List Cond))))))))
set_option maxRecDepth 100000 in
theorem itX8_as_o : ∀ w ∈ wsX8_as_o, w ∈ lw_tbl := List.forall_mem_append.mpr ⟨fun w h => ch_0 w (mem_r (big := k2_sels lw_privs) _ [53, 49, 28, 27] (by decide +kernel) w h), List.forall_mem_append.mpr ⟨fun w h => ch_1 w (mem_r (big := tables_1_1) _ [9] (by decide +kernel) w h), List.forall_mem_append.mpr ⟨fun w h => ch_4 w (mem_r (big := tables_1_4) _ [132, 64, 129, 130, 138, 140, 55, 133, 135, 137] (by decide +kernel) w h), List.forall_mem_append.mpr ⟨fun w h => ch_5 w (mem_r (big := tables_1_5) _ [59, 61, 35, 37] (by decide +kernel) w h), fun _ h => absurd h List.not_mem_nil⟩⟩⟩⟩
set_option maxRecDepth 100000 in
theorem itX8_as : ∀ w ∈ wsX8_as, w ∈ lw_tbl := List.forall_mem_cons.mpr ⟨ch_5 _ (List.mem_of_getElem? (l := tables_1_5) (i := 196) (by decide +kernel)), List.forall_mem_append.mpr ⟨itX8_as_o, List.forall_mem_append.mpr ⟨itX80, List.forall_mem_append.mpr ⟨itX8_isGuard, List.forall_mem_append.mpr ⟨itX8_in, List.forall_mem_append.mpr ⟨itX8_kindIn, List.forall_mem_append.mpr ⟨itX8_well, List.forall_mem_append.mpr ⟨itX8_found, fun _ h => absurd h List.not_mem_nil⟩⟩⟩⟩⟩⟩⟩⟩
set_option maxRecDepth 100000 in
theorem gdX8_as_o : ∀ w ∈ wsX8_as_o, goodWord w = true := gd_o (by decide +kernel)
set_option maxRecDepth 100000 in
theorem gdX8_as : ∀ w ∈ wsX8_as, goodWord w = true := List.forall_mem_cons.mpr ⟨by decide +kernel, List.forall_mem_append.mpr ⟨gdX8_as_o, List.forall_mem_append.mpr ⟨gdX80, List.forall_mem_append.mpr ⟨gdX8_isGuard, List.forall_mem_append.mpr ⟨gdX8_in, List.forall_mem_append.mpr ⟨gdX8_kindIn, List.forall_mem_append.mpr ⟨gdX8_well, List.forall_mem_append.mpr ⟨gdX8_found, fun _ h => absurd h List.not_mem_nil⟩⟩⟩⟩⟩⟩⟩⟩
def wsX8_begins_o : List Cond := (([Cond.fieldLink RX8 237 "WrongWordModel" "traced" "I", Cond.fieldLink RX8 47 "WrongWordModel" "trace" "[I"] : List Cond) ++ ([] : List Cond))
def wsX8_begins : List Cond := .code yX8_begins cX8_begins 2 none :: (wsX8_begins_o ++ (wsX80 ++ ([] : List Cond)))
set_option maxRecDepth 100000 in
theorem itX8_begins_o : ∀ w ∈ wsX8_begins_o, w ∈ lw_tbl := List.forall_mem_append.mpr ⟨fun w h => ch_4 w (mem_r (big := tables_1_4) _ [73, 72] (by decide +kernel) w h), fun _ h => absurd h List.not_mem_nil⟩
set_option maxRecDepth 100000 in
theorem itX8_begins : ∀ w ∈ wsX8_begins, w ∈ lw_tbl := List.forall_mem_cons.mpr ⟨ch_5 _ (List.mem_of_getElem? (l := tables_1_5) (i := 208) (by decide +kernel)), List.forall_mem_append.mpr ⟨itX8_begins_o, List.forall_mem_append.mpr ⟨itX80, fun _ h => absurd h List.not_mem_nil⟩⟩⟩
set_option maxRecDepth 100000 in
theorem gdX8_begins_o : ∀ w ∈ wsX8_begins_o, goodWord w = true := gd_o (by decide +kernel)
set_option maxRecDepth 100000 in
theorem gdX8_begins : ∀ w ∈ wsX8_begins, goodWord w = true := List.forall_mem_cons.mpr ⟨by decide +kernel, List.forall_mem_append.mpr ⟨gdX8_begins_o, List.forall_mem_append.mpr ⟨gdX80, fun _ h => absurd h List.not_mem_nil⟩⟩⟩
def wsX8_keenMark_o : List Cond := (([Cond.selects RX8 yX8_kindIn yX8_kindIn, Cond.selects RX8 yX8_begins yX8_begins] : List Cond) ++ (([Cond.initialized RX8] : List Cond) ++ (([Cond.fieldLink RX8 25 "WrongWordModel" "now" "[I", Cond.fieldLink RX8 237 "WrongWordModel" "traced" "I", Cond.fieldLink RX8 47 "WrongWordModel" "trace" "[I"] : List Cond) ++ (([Cond.methodLink RX8 165 yX8_kindIn, Cond.instanceMethod yX8_kindIn, Cond.methodLink RX8 240 yX8_begins, Cond.instanceMethod yX8_begins] : List Cond) ++ ([] : List Cond)))))
def wsX8_keenMark : List Cond := .code yX8_keenMark cX8_keenMark 4 (some .int) :: (wsX8_keenMark_o ++ (wsX80 ++ (wsX8_kindIn ++ (wsX8_begins ++ ([] : List Cond)))))
set_option maxRecDepth 100000 in
theorem itX8_keenMark_o : ∀ w ∈ wsX8_keenMark_o, w ∈ lw_tbl := List.forall_mem_append.mpr ⟨fun w h => ch_0 w (mem_r (big := k2_sels lw_privs) _ [49, 62] (by decide +kernel) w h), List.forall_mem_append.mpr ⟨fun w h => ch_1 w (mem_r (big := tables_1_1) _ [9] (by decide +kernel) w h), List.forall_mem_append.mpr ⟨fun w h => ch_4 w (mem_r (big := tables_1_4) _ [64, 73, 72] (by decide +kernel) w h), List.forall_mem_append.mpr ⟨fun w h => ch_5 w (mem_r (big := tables_1_5) _ [35, 37, 205, 207] (by decide +kernel) w h), fun _ h => absurd h List.not_mem_nil⟩⟩⟩⟩
set_option maxRecDepth 100000 in
theorem itX8_keenMark : ∀ w ∈ wsX8_keenMark, w ∈ lw_tbl := List.forall_mem_cons.mpr ⟨ch_5 _ (List.mem_of_getElem? (l := tables_1_5) (i := 216) (by decide +kernel)), List.forall_mem_append.mpr ⟨itX8_keenMark_o, List.forall_mem_append.mpr ⟨itX80, List.forall_mem_append.mpr ⟨itX8_kindIn, List.forall_mem_append.mpr ⟨itX8_begins, fun _ h => absurd h List.not_mem_nil⟩⟩⟩⟩⟩
set_option maxRecDepth 100000 in
theorem gdX8_keenMark_o : ∀ w ∈ wsX8_keenMark_o, goodWord w = true := gd_o (by decide +kernel)
set_option maxRecDepth 100000 in
theorem gdX8_keenMark : ∀ w ∈ wsX8_keenMark, goodWord w = true := List.forall_mem_cons.mpr ⟨by decide +kernel, List.forall_mem_append.mpr ⟨gdX8_keenMark_o, List.forall_mem_append.mpr ⟨gdX80, List.forall_mem_append.mpr ⟨gdX8_kindIn, List.forall_mem_append.mpr ⟨gdX8_begins, fun _ h => absurd h List.not_mem_nil⟩⟩⟩⟩⟩
def wsX8_deafSize_o : List Cond := (([Cond.selects RX8 yX8_kindIn yX8_kindIn, Cond.selects RX8 yX8_begins yX8_begins] : List Cond) ++ (([Cond.initialized RX8] : List Cond) ++ (([Cond.fieldLink RX8 25 "WrongWordModel" "now" "[I", Cond.fieldLink RX8 237 "WrongWordModel" "traced" "I", Cond.fieldLink RX8 47 "WrongWordModel" "trace" "[I"] : List Cond) ++ (([Cond.methodLink RX8 165 yX8_kindIn, Cond.instanceMethod yX8_kindIn, Cond.methodLink RX8 240 yX8_begins, Cond.instanceMethod yX8_begins] : List Cond) ++ ([] : List Cond)))))
def wsX8_deafSize : List Cond := .code yX8_deafSize cX8_deafSize 4 (some .int) :: (wsX8_deafSize_o ++ (wsX80 ++ (wsX8_kindIn ++ (wsX8_begins ++ ([] : List Cond)))))
set_option maxRecDepth 100000 in
theorem itX8_deafSize_o : ∀ w ∈ wsX8_deafSize_o, w ∈ lw_tbl := List.forall_mem_append.mpr ⟨fun w h => ch_0 w (mem_r (big := k2_sels lw_privs) _ [49, 62] (by decide +kernel) w h), List.forall_mem_append.mpr ⟨fun w h => ch_1 w (mem_r (big := tables_1_1) _ [9] (by decide +kernel) w h), List.forall_mem_append.mpr ⟨fun w h => ch_4 w (mem_r (big := tables_1_4) _ [64, 73, 72] (by decide +kernel) w h), List.forall_mem_append.mpr ⟨fun w h => ch_5 w (mem_r (big := tables_1_5) _ [35, 37, 205, 207] (by decide +kernel) w h), fun _ h => absurd h List.not_mem_nil⟩⟩⟩⟩
set_option maxRecDepth 100000 in
theorem itX8_deafSize : ∀ w ∈ wsX8_deafSize, w ∈ lw_tbl := List.forall_mem_cons.mpr ⟨ch_5 _ (List.mem_of_getElem? (l := tables_1_5) (i := 204) (by decide +kernel)), List.forall_mem_append.mpr ⟨itX8_deafSize_o, List.forall_mem_append.mpr ⟨itX80, List.forall_mem_append.mpr ⟨itX8_kindIn, List.forall_mem_append.mpr ⟨itX8_begins, fun _ h => absurd h List.not_mem_nil⟩⟩⟩⟩⟩
set_option maxRecDepth 100000 in
theorem gdX8_deafSize_o : ∀ w ∈ wsX8_deafSize_o, goodWord w = true := gd_o (by decide +kernel)
set_option maxRecDepth 100000 in
theorem gdX8_deafSize : ∀ w ∈ wsX8_deafSize, goodWord w = true := List.forall_mem_cons.mpr ⟨by decide +kernel, List.forall_mem_append.mpr ⟨gdX8_deafSize_o, List.forall_mem_append.mpr ⟨gdX80, List.forall_mem_append.mpr ⟨gdX8_kindIn, List.forall_mem_append.mpr ⟨gdX8_begins, fun _ h => absurd h List.not_mem_nil⟩⟩⟩⟩⟩
def wsX8_keenSize_o : List Cond := (([Cond.selects RX8 yX8_kindIn yX8_kindIn, Cond.selects RX8 yX8_begins yX8_begins, Cond.selects RX8 yX8_keenMark yX8_keenMark] : List Cond) ++ (([Cond.initialized RX8] : List Cond) ++ (([Cond.fieldLink RX8 25 "WrongWordModel" "now" "[I", Cond.fieldLink RX8 237 "WrongWordModel" "traced" "I", Cond.fieldLink RX8 47 "WrongWordModel" "trace" "[I"] : List Cond) ++ (([Cond.methodLink RX8 165 yX8_kindIn, Cond.instanceMethod yX8_kindIn, Cond.methodLink RX8 240 yX8_begins, Cond.instanceMethod yX8_begins, Cond.methodLink RX8 244 yX8_keenMark, Cond.instanceMethod yX8_keenMark] : List Cond) ++ ([] : List Cond)))))
def wsX8_keenSize : List Cond := .code yX8_keenSize cX8_keenSize 4 (some .int) :: (wsX8_keenSize_o ++ (wsX80 ++ (wsX8_kindIn ++ (wsX8_begins ++ (wsX8_keenMark ++ ([] : List Cond))))))
set_option maxRecDepth 100000 in
theorem itX8_keenSize_o : ∀ w ∈ wsX8_keenSize_o, w ∈ lw_tbl := List.forall_mem_append.mpr ⟨fun w h => ch_0 w (mem_r (big := k2_sels lw_privs) _ [49, 62, 64] (by decide +kernel) w h), List.forall_mem_append.mpr ⟨fun w h => ch_1 w (mem_r (big := tables_1_1) _ [9] (by decide +kernel) w h), List.forall_mem_append.mpr ⟨fun w h => ch_4 w (mem_r (big := tables_1_4) _ [64, 73, 72] (by decide +kernel) w h), List.forall_mem_append.mpr ⟨fun w h => ch_5 w (mem_r (big := tables_1_5) _ [35, 37, 205, 207, 213, 215] (by decide +kernel) w h), fun _ h => absurd h List.not_mem_nil⟩⟩⟩⟩
set_option maxRecDepth 100000 in
theorem itX8_keenSize : ∀ w ∈ wsX8_keenSize, w ∈ lw_tbl := List.forall_mem_cons.mpr ⟨ch_5 _ (List.mem_of_getElem? (l := tables_1_5) (i := 212) (by decide +kernel)), List.forall_mem_append.mpr ⟨itX8_keenSize_o, List.forall_mem_append.mpr ⟨itX80, List.forall_mem_append.mpr ⟨itX8_kindIn, List.forall_mem_append.mpr ⟨itX8_begins, List.forall_mem_append.mpr ⟨itX8_keenMark, fun _ h => absurd h List.not_mem_nil⟩⟩⟩⟩⟩⟩
set_option maxRecDepth 100000 in
theorem gdX8_keenSize_o : ∀ w ∈ wsX8_keenSize_o, goodWord w = true := gd_o (by decide +kernel)
set_option maxRecDepth 100000 in
theorem gdX8_keenSize : ∀ w ∈ wsX8_keenSize, goodWord w = true := List.forall_mem_cons.mpr ⟨by decide +kernel, List.forall_mem_append.mpr ⟨gdX8_keenSize_o, List.forall_mem_append.mpr ⟨gdX80, List.forall_mem_append.mpr ⟨gdX8_kindIn, List.forall_mem_append.mpr ⟨gdX8_begins, List.forall_mem_append.mpr ⟨gdX8_keenMark, fun _ h => absurd h List.not_mem_nil⟩⟩⟩⟩⟩⟩
def wsX8_deafMark_o : List Cond := (([Cond.selects RX8 yX8_begins yX8_begins, Cond.selects RX8 yX8_deafSize yX8_deafSize, Cond.selects RX8 yX8_kindIn yX8_kindIn] : List Cond) ++ (([Cond.initialized RX8] : List Cond) ++ (([Cond.fieldLink RX8 237 "WrongWordModel" "traced" "I", Cond.fieldLink RX8 47 "WrongWordModel" "trace" "[I", Cond.fieldLink RX8 25 "WrongWordModel" "now" "[I"] : List Cond) ++ (([Cond.methodLink RX8 240 yX8_begins, Cond.instanceMethod yX8_begins, Cond.methodLink RX8 247 yX8_deafSize, Cond.instanceMethod yX8_deafSize, Cond.methodLink RX8 165 yX8_kindIn] : List Cond) ++ ([] : List Cond)))))
def wsX8_deafMark : List Cond := .code yX8_deafMark cX8_deafMark 2 (some .int) :: (wsX8_deafMark_o ++ (wsX80 ++ (wsX8_begins ++ (wsX8_deafSize ++ ([] : List Cond)))))
set_option maxRecDepth 100000 in
theorem itX8_deafMark_o : ∀ w ∈ wsX8_deafMark_o, w ∈ lw_tbl := List.forall_mem_append.mpr ⟨fun w h => ch_0 w (mem_r (big := k2_sels lw_privs) _ [62, 61, 49] (by decide +kernel) w h), List.forall_mem_append.mpr ⟨fun w h => ch_1 w (mem_r (big := tables_1_1) _ [9] (by decide +kernel) w h), List.forall_mem_append.mpr ⟨fun w h => ch_4 w (mem_r (big := tables_1_4) _ [73, 72, 64] (by decide +kernel) w h), List.forall_mem_append.mpr ⟨fun w h => ch_5 w (mem_r (big := tables_1_5) _ [205, 207, 201, 203, 35] (by decide +kernel) w h), fun _ h => absurd h List.not_mem_nil⟩⟩⟩⟩
set_option maxRecDepth 100000 in
theorem itX8_deafMark : ∀ w ∈ wsX8_deafMark, w ∈ lw_tbl := List.forall_mem_cons.mpr ⟨ch_5 _ (List.mem_of_getElem? (l := tables_1_5) (i := 220) (by decide +kernel)), List.forall_mem_append.mpr ⟨itX8_deafMark_o, List.forall_mem_append.mpr ⟨itX80, List.forall_mem_append.mpr ⟨itX8_begins, List.forall_mem_append.mpr ⟨itX8_deafSize, fun _ h => absurd h List.not_mem_nil⟩⟩⟩⟩⟩
set_option maxRecDepth 100000 in
theorem gdX8_deafMark_o : ∀ w ∈ wsX8_deafMark_o, goodWord w = true := gd_o (by decide +kernel)
set_option maxRecDepth 100000 in
theorem gdX8_deafMark : ∀ w ∈ wsX8_deafMark, goodWord w = true := List.forall_mem_cons.mpr ⟨by decide +kernel, List.forall_mem_append.mpr ⟨gdX8_deafMark_o, List.forall_mem_append.mpr ⟨gdX80, List.forall_mem_append.mpr ⟨gdX8_begins, List.forall_mem_append.mpr ⟨gdX8_deafSize, fun _ h => absurd h List.not_mem_nil⟩⟩⟩⟩⟩
def wsX8_ask_o : List Cond := (([Cond.selects RX8 yX8_isGuard yX8_isGuard, Cond.selects RX8 yX8_kindIn yX8_kindIn, Cond.selects RX8 yX8_deafSize yX8_deafSize, Cond.selects RX8 yX8_begins yX8_begins, Cond.selects RX8 yX8_keenSize yX8_keenSize, Cond.selects RX8 yX8_keenMark yX8_keenMark, Cond.selects RX8 yX8_deafMark yX8_deafMark] : List Cond) ++ (([Cond.initialized RX8] : List Cond) ++ (([Cond.constant RX8 64 (-1000001), Cond.fieldLink RX8 237 "WrongWordModel" "traced" "I", Cond.fieldLink RX8 25 "WrongWordModel" "now" "[I", Cond.methodLink RX8 56 yX8_in, Cond.static yX8_in, Cond.fieldLink RX8 47 "WrongWordModel" "trace" "[I"] : List Cond) ++ (([Cond.methodLink RX8 199 yX8_isGuard, Cond.instanceMethod yX8_isGuard, Cond.methodLink RX8 165 yX8_kindIn, Cond.instanceMethod yX8_kindIn, Cond.methodLink RX8 247 yX8_deafSize, Cond.instanceMethod yX8_deafSize, Cond.methodLink RX8 240 yX8_begins, Cond.methodLink RX8 250 yX8_keenSize, Cond.instanceMethod yX8_keenSize, Cond.methodLink RX8 244 yX8_keenMark, Cond.instanceMethod yX8_keenMark, Cond.methodLink RX8 253 yX8_deafMark, Cond.instanceMethod yX8_deafMark] : List Cond) ++ ([] : List Cond)))))
def wsX8_ask : List Cond := .code yX8_ask cX8_ask 4 (some .int) :: (wsX8_ask_o ++ (wsX80 ++ (wsX8_isGuard ++ (wsX8_in ++ (wsX8_kindIn ++ (wsX8_deafSize ++ (wsX8_keenSize ++ (wsX8_deafMark ++ (wsX8_keenMark ++ ([] : List Cond))))))))))
set_option maxRecDepth 100000 in
theorem itX8_ask_o : ∀ w ∈ wsX8_ask_o, w ∈ lw_tbl := List.forall_mem_append.mpr ⟨fun w h => ch_0 w (mem_r (big := k2_sels lw_privs) _ [53, 49, 61, 62, 63, 64, 65] (by decide +kernel) w h), List.forall_mem_append.mpr ⟨fun w h => ch_1 w (mem_r (big := tables_1_1) _ [9] (by decide +kernel) w h), List.forall_mem_append.mpr ⟨fun w h => ch_4 w (mem_r (big := tables_1_4) _ [132, 73, 64, 129, 130, 72] (by decide +kernel) w h), List.forall_mem_append.mpr ⟨fun w h => ch_5 w (mem_r (big := tables_1_5) _ [59, 61, 35, 37, 201, 203, 205, 209, 211, 213, 215, 217, 219] (by decide +kernel) w h), fun _ h => absurd h List.not_mem_nil⟩⟩⟩⟩
set_option maxRecDepth 100000 in
theorem itX8_ask : ∀ w ∈ wsX8_ask, w ∈ lw_tbl := List.forall_mem_cons.mpr ⟨ch_5 _ (List.mem_of_getElem? (l := tables_1_5) (i := 200) (by decide +kernel)), List.forall_mem_append.mpr ⟨itX8_ask_o, List.forall_mem_append.mpr ⟨itX80, List.forall_mem_append.mpr ⟨itX8_isGuard, List.forall_mem_append.mpr ⟨itX8_in, List.forall_mem_append.mpr ⟨itX8_kindIn, List.forall_mem_append.mpr ⟨itX8_deafSize, List.forall_mem_append.mpr ⟨itX8_keenSize, List.forall_mem_append.mpr ⟨itX8_deafMark, List.forall_mem_append.mpr ⟨itX8_keenMark, fun _ h => absurd h List.not_mem_nil⟩⟩⟩⟩⟩⟩⟩⟩⟩⟩
set_option maxRecDepth 100000 in
theorem gdX8_ask_o : ∀ w ∈ wsX8_ask_o, goodWord w = true := gd_o (by decide +kernel)
set_option maxRecDepth 100000 in
theorem gdX8_ask : ∀ w ∈ wsX8_ask, goodWord w = true := List.forall_mem_cons.mpr ⟨by decide +kernel, List.forall_mem_append.mpr ⟨gdX8_ask_o, List.forall_mem_append.mpr ⟨gdX80, List.forall_mem_append.mpr ⟨gdX8_isGuard, List.forall_mem_append.mpr ⟨gdX8_in, List.forall_mem_append.mpr ⟨gdX8_kindIn, List.forall_mem_append.mpr ⟨gdX8_deafSize, List.forall_mem_append.mpr ⟨gdX8_keenSize, List.forall_mem_append.mpr ⟨gdX8_deafMark, List.forall_mem_append.mpr ⟨gdX8_keenMark, fun _ h => absurd h List.not_mem_nil⟩⟩⟩⟩⟩⟩⟩⟩⟩⟩
def wsX8_trace_o : List Cond := (([Cond.initialized RX8] : List Cond) ++ (([Cond.fieldLink RX8 237 "WrongWordModel" "traced" "I", Cond.fieldLink RX8 47 "WrongWordModel" "trace" "[I", Cond.constant RX8 50 (-1000000), Cond.methodLink RX8 56 yX8_in, Cond.static yX8_in] : List Cond) ++ ([] : List Cond)))
def wsX8_trace : List Cond := .code yX8_trace cX8_trace 2 (some .int) :: (wsX8_trace_o ++ (wsX80 ++ (wsX8_in ++ ([] : List Cond))))
set_option maxRecDepth 100000 in
theorem itX8_trace_o : ∀ w ∈ wsX8_trace_o, w ∈ lw_tbl := List.forall_mem_append.mpr ⟨fun w h => ch_1 w (mem_r (big := tables_1_1) _ [9] (by decide +kernel) w h), List.forall_mem_append.mpr ⟨fun w h => ch_4 w (mem_r (big := tables_1_4) _ [73, 72, 50, 129, 130] (by decide +kernel) w h), fun _ h => absurd h List.not_mem_nil⟩⟩
set_option maxRecDepth 100000 in
theorem itX8_trace : ∀ w ∈ wsX8_trace, w ∈ lw_tbl := List.forall_mem_cons.mpr ⟨ch_5 _ (List.mem_of_getElem? (l := tables_1_5) (i := 224) (by decide +kernel)), List.forall_mem_append.mpr ⟨itX8_trace_o, List.forall_mem_append.mpr ⟨itX80, List.forall_mem_append.mpr ⟨itX8_in, fun _ h => absurd h List.not_mem_nil⟩⟩⟩⟩
set_option maxRecDepth 100000 in
theorem gdX8_trace_o : ∀ w ∈ wsX8_trace_o, goodWord w = true := gd_o (by decide +kernel)
set_option maxRecDepth 100000 in
theorem gdX8_trace : ∀ w ∈ wsX8_trace, goodWord w = true := List.forall_mem_cons.mpr ⟨by decide +kernel, List.forall_mem_append.mpr ⟨gdX8_trace_o, List.forall_mem_append.mpr ⟨gdX80, List.forall_mem_append.mpr ⟨gdX8_in, fun _ h => absurd h List.not_mem_nil⟩⟩⟩⟩
def wsX8_count_o : List Cond := (([Cond.selects RX8 yX8_isMissing yX8_isMissing] : List Cond) ++ (([Cond.initialized RX8] : List Cond) ++ (([Cond.fieldLink RX8 25 "WrongWordModel" "now" "[I", Cond.fieldLink RX8 149 "WrongWordModel" "acts" "I", Cond.fieldLink RX8 82 "WrongWordModel" "taped" "I", Cond.constant RX8 64 (-1000001), Cond.methodLink RX8 72 yX8_isMissing, Cond.instanceMethod yX8_isMissing, Cond.fieldLink RX8 7 "WrongWordModel" "lane" "[I", Cond.constant RX8 50 (-1000000)] : List Cond) ++ ([] : List Cond))))
def wsX8_count : List Cond := .code yX8_count cX8_count 4 (some .int) :: (wsX8_count_o ++ (wsX80 ++ (wsX8_isMissing ++ ([] : List Cond))))
set_option maxRecDepth 100000 in
theorem itX8_count_o : ∀ w ∈ wsX8_count_o, w ∈ lw_tbl := List.forall_mem_append.mpr ⟨fun w h => ch_0 w (mem_r (big := k2_sels lw_privs) _ [29] (by decide +kernel) w h), List.forall_mem_append.mpr ⟨fun w h => ch_1 w (mem_r (big := tables_1_1) _ [9] (by decide +kernel) w h), List.forall_mem_append.mpr ⟨fun w h => ch_4 w (mem_r (big := tables_1_4) _ [64, 68, 57, 132, 146, 148, 51, 50] (by decide +kernel) w h), fun _ h => absurd h List.not_mem_nil⟩⟩⟩
set_option maxRecDepth 100000 in
theorem itX8_count : ∀ w ∈ wsX8_count, w ∈ lw_tbl := List.forall_mem_cons.mpr ⟨ch_5 _ (List.mem_of_getElem? (l := tables_1_5) (i := 228) (by decide +kernel)), List.forall_mem_append.mpr ⟨itX8_count_o, List.forall_mem_append.mpr ⟨itX80, List.forall_mem_append.mpr ⟨itX8_isMissing, fun _ h => absurd h List.not_mem_nil⟩⟩⟩⟩
set_option maxRecDepth 100000 in
theorem gdX8_count_o : ∀ w ∈ wsX8_count_o, goodWord w = true := gd_o (by decide +kernel)
set_option maxRecDepth 100000 in
theorem gdX8_count : ∀ w ∈ wsX8_count, goodWord w = true := List.forall_mem_cons.mpr ⟨by decide +kernel, List.forall_mem_append.mpr ⟨gdX8_count_o, List.forall_mem_append.mpr ⟨gdX80, List.forall_mem_append.mpr ⟨gdX8_isMissing, fun _ h => absurd h List.not_mem_nil⟩⟩⟩⟩
def wsX8_status_o : List Cond := (([Cond.fieldLink RX8 51 "WrongWordModel" "status" "I"] : List Cond) ++ ([] : List Cond))
def wsX8_status : List Cond := .code yX8_status cX8_status 1 (some .int) :: (wsX8_status_o ++ (wsX80 ++ ([] : List Cond)))
set_option maxRecDepth 100000 in
theorem itX8_status_o : ∀ w ∈ wsX8_status_o, w ∈ lw_tbl := List.forall_mem_append.mpr ⟨fun w h => ch_4 w (mem_r (big := tables_1_4) _ [55] (by decide +kernel) w h), fun _ h => absurd h List.not_mem_nil⟩
set_option maxRecDepth 100000 in
theorem itX8_status : ∀ w ∈ wsX8_status, w ∈ lw_tbl := List.forall_mem_cons.mpr ⟨ch_5 _ (List.mem_of_getElem? (l := tables_1_5) (i := 232) (by decide +kernel)), List.forall_mem_append.mpr ⟨itX8_status_o, List.forall_mem_append.mpr ⟨itX80, fun _ h => absurd h List.not_mem_nil⟩⟩⟩
set_option maxRecDepth 100000 in
theorem gdX8_status_o : ∀ w ∈ wsX8_status_o, goodWord w = true := gd_o (by decide +kernel)
set_option maxRecDepth 100000 in
theorem gdX8_status : ∀ w ∈ wsX8_status, goodWord w = true := List.forall_mem_cons.mpr ⟨by decide +kernel, List.forall_mem_append.mpr ⟨gdX8_status_o, List.forall_mem_append.mpr ⟨gdX80, fun _ h => absurd h List.not_mem_nil⟩⟩⟩
def wsJ9_max_7cf53_o : List Cond := ([] : List Cond)
def wsJ9_max_7cf53 : List Cond := .code yJ9_max_7cf53 cJ9_max_7cf53 2 (some .int) :: (wsJ9_max_7cf53_o ++ ([] : List Cond))
set_option maxRecDepth 100000 in
theorem itJ9_max_7cf53_o : ∀ w ∈ wsJ9_max_7cf53_o, w ∈ lw_tbl := fun _ h => absurd h List.not_mem_nil
set_option maxRecDepth 100000 in
theorem itJ9_max_7cf53 : ∀ w ∈ wsJ9_max_7cf53, w ∈ lw_tbl := List.forall_mem_cons.mpr ⟨ch_3 _ (List.mem_of_getElem? (l := tables_1_3) (i := 118) (by decide +kernel)), List.forall_mem_append.mpr ⟨itJ9_max_7cf53_o, fun _ h => absurd h List.not_mem_nil⟩⟩
set_option maxRecDepth 100000 in
theorem gdJ9_max_7cf53_o : ∀ w ∈ wsJ9_max_7cf53_o, goodWord w = true := gd_o (by decide +kernel)
set_option maxRecDepth 100000 in
theorem gdJ9_max_7cf53 : ∀ w ∈ wsJ9_max_7cf53, goodWord w = true := List.forall_mem_cons.mpr ⟨by decide +kernel, List.forall_mem_append.mpr ⟨gdJ9_max_7cf53_o, fun _ h => absurd h List.not_mem_nil⟩⟩
def wsJ9_min_7cf53_o : List Cond := ([] : List Cond)
def wsJ9_min_7cf53 : List Cond := .code yJ9_min_7cf53 cJ9_min_7cf53 2 (some .int) :: (wsJ9_min_7cf53_o ++ ([] : List Cond))
set_option maxRecDepth 100000 in
theorem itJ9_min_7cf53_o : ∀ w ∈ wsJ9_min_7cf53_o, w ∈ lw_tbl := fun _ h => absurd h List.not_mem_nil
set_option maxRecDepth 100000 in
theorem itJ9_min_7cf53 : ∀ w ∈ wsJ9_min_7cf53, w ∈ lw_tbl := List.forall_mem_cons.mpr ⟨ch_2 _ (List.mem_of_getElem? (l := tables_1_2) (i := 173) (by decide +kernel)), List.forall_mem_append.mpr ⟨itJ9_min_7cf53_o, fun _ h => absurd h List.not_mem_nil⟩⟩
set_option maxRecDepth 100000 in
theorem gdJ9_min_7cf53_o : ∀ w ∈ wsJ9_min_7cf53_o, goodWord w = true := gd_o (by decide +kernel)
set_option maxRecDepth 100000 in
theorem gdJ9_min_7cf53 : ∀ w ∈ wsJ9_min_7cf53, goodWord w = true := List.forall_mem_cons.mpr ⟨by decide +kernel, List.forall_mem_append.mpr ⟨gdJ9_min_7cf53_o, fun _ h => absurd h List.not_mem_nil⟩⟩
theorem ggX0_init_X4_init : GoodIn wsX0_init wsX4_init := fun w h => ⟨List.mem_cons_of_mem _ (List.mem_append_right _ (List.mem_append_right _ (List.mem_append_right _ (List.mem_append_left _ h)))), good_of_word (gdX4_init w h)⟩
set_option maxRecDepth 20000 in
theorem gX0_init_X4_init_n17 : GoodIn wsX0_init (wsX4_init) := ggX0_init_X4_init
def tb_X0_init_1 : List (Nat × Instr × Nat) := [(0, .aload_n 0, 1), (1, .invokespecial 3, 3), (4, .aload_n 0, 1), (5, .bipush 24, 2), (7, .anewarray 9, 3), (10, .putfield 11, 3), (13, .iconst 0, 1), (14, .istore_n 1, 1), (15, .iload_n 1, 1), (16, .bipush 24, 2), (18, .if_icmp .ge 22, 3), (21, .aload_n 0, 1), (22, .getfield 11, 3), (25, .iload_n 1, 1), (26, .new 9, 3), (29, .dup, 1), (30, .invokespecial 17, 3), (33, .aastore, 1), (34, .iinc 1 1, 3), (37, .goto (-22), 3), (40, .return_, 1)]
set_option maxRecDepth 100000 in
theorem tk_X0_init_1 : (tb_X0_init_1.all fun q => decide (decode cX0_init q.1 = .ok q.2)) = true := by decide +kernel
theorem dX0_init_0 : decode cX0_init 0 = .ok (.aload_n 0, 1) := tb_d tk_X0_init_1 0 (0, .aload_n 0, 1) rfl
theorem dX0_init_1 : decode cX0_init 1 = .ok (.invokespecial 3, 3) := tb_d tk_X0_init_1 1 (1, .invokespecial 3, 3) rfl
theorem dX0_init_4 : decode cX0_init 4 = .ok (.aload_n 0, 1) := tb_d tk_X0_init_1 2 (4, .aload_n 0, 1) rfl
theorem dX0_init_5 : decode cX0_init 5 = .ok (.bipush 24, 2) := tb_d tk_X0_init_1 3 (5, .bipush 24, 2) rfl
theorem dX0_init_7 : decode cX0_init 7 = .ok (.anewarray 9, 3) := tb_d tk_X0_init_1 4 (7, .anewarray 9, 3) rfl
theorem dX0_init_10 : decode cX0_init 10 = .ok (.putfield 11, 3) := tb_d tk_X0_init_1 5 (10, .putfield 11, 3) rfl
theorem dX0_init_13 : decode cX0_init 13 = .ok (.iconst 0, 1) := tb_d tk_X0_init_1 6 (13, .iconst 0, 1) rfl
theorem dX0_init_14 : decode cX0_init 14 = .ok (.istore_n 1, 1) := tb_d tk_X0_init_1 7 (14, .istore_n 1, 1) rfl
theorem dX0_init_15 : decode cX0_init 15 = .ok (.iload_n 1, 1) := tb_d tk_X0_init_1 8 (15, .iload_n 1, 1) rfl
theorem dX0_init_16 : decode cX0_init 16 = .ok (.bipush 24, 2) := tb_d tk_X0_init_1 9 (16, .bipush 24, 2) rfl
theorem dX0_init_18 : decode cX0_init 18 = .ok (.if_icmp .ge 22, 3) := tb_d tk_X0_init_1 10 (18, .if_icmp .ge 22, 3) rfl
theorem dX0_init_21 : decode cX0_init 21 = .ok (.aload_n 0, 1) := tb_d tk_X0_init_1 11 (21, .aload_n 0, 1) rfl
theorem dX0_init_22 : decode cX0_init 22 = .ok (.getfield 11, 3) := tb_d tk_X0_init_1 12 (22, .getfield 11, 3) rfl
theorem dX0_init_25 : decode cX0_init 25 = .ok (.iload_n 1, 1) := tb_d tk_X0_init_1 13 (25, .iload_n 1, 1) rfl
theorem dX0_init_26 : decode cX0_init 26 = .ok (.new 9, 3) := tb_d tk_X0_init_1 14 (26, .new 9, 3) rfl
theorem dX0_init_29 : decode cX0_init 29 = .ok (.dup, 1) := tb_d tk_X0_init_1 15 (29, .dup, 1) rfl
theorem dX0_init_30 : decode cX0_init 30 = .ok (.invokespecial 17, 3) := tb_d tk_X0_init_1 16 (30, .invokespecial 17, 3) rfl
theorem dX0_init_33 : decode cX0_init 33 = .ok (.aastore, 1) := tb_d tk_X0_init_1 17 (33, .aastore, 1) rfl
theorem dX0_init_34 : decode cX0_init 34 = .ok (.iinc 1 1, 3) := tb_d tk_X0_init_1 18 (34, .iinc 1 1, 3) rfl
theorem dX0_init_37 : decode cX0_init 37 = .ok (.goto (-22), 3) := tb_d tk_X0_init_1 19 (37, .goto (-22), 3) rfl
theorem dX0_init_40 : decode cX0_init 40 = .ok (.return_, 1) := tb_d tk_X0_init_1 20 (40, .return_, 1) rfl
def tb_X0_forget_1 : List (Nat × Instr × Nat) := [(0, .aload_n 0, 1), (1, .iconst 0, 1), (2, .putfield 18, 3), (5, .return_, 1)]
set_option maxRecDepth 100000 in
theorem tk_X0_forget_1 : (tb_X0_forget_1.all fun q => decide (decode cX0_forget q.1 = .ok q.2)) = true := by decide +kernel
theorem dX0_forget_0 : decode cX0_forget 0 = .ok (.aload_n 0, 1) := tb_d tk_X0_forget_1 0 (0, .aload_n 0, 1) rfl
theorem dX0_forget_1 : decode cX0_forget 1 = .ok (.iconst 0, 1) := tb_d tk_X0_forget_1 1 (1, .iconst 0, 1) rfl
theorem dX0_forget_2 : decode cX0_forget 2 = .ok (.putfield 18, 3) := tb_d tk_X0_forget_1 2 (2, .putfield 18, 3) rfl
theorem dX0_forget_5 : decode cX0_forget 5 = .ok (.return_, 1) := tb_d tk_X0_forget_1 3 (5, .return_, 1) rfl
theorem ggX0_keep_X4_become : GoodIn wsX0_keep wsX4_become := fun w h => ⟨List.mem_cons_of_mem _ (List.mem_append_right _ (List.mem_append_right _ (List.mem_append_right _ (List.mem_append_left _ h)))), good_of_word (gdX4_become w h)⟩
set_option maxRecDepth 20000 in
theorem gX0_keep_X4_become : GoodIn wsX0_keep (wsV RX0 25 RX4 yX4_become wsX4_become) := goodIn_app (goodIn_of _ (by decide +kernel)) ggX0_keep_X4_become
def tb_X0_keep_1 : List (Nat × Instr × Nat) := [(0, .aload_n 0, 1), (1, .getfield 11, 3), (4, .aload_n 0, 1), (5, .getfield 22, 3), (8, .aaload, 1), (9, .aload_n 1, 1), (10, .invokevirtual 25, 3), (13, .aload_n 0, 1), (14, .aload_n 0, 1), (15, .getfield 22, 3), (18, .iconst 1, 1), (19, .iadd, 1), (20, .bipush 24, 2), (22, .if_icmp .ge 12, 3), (25, .aload_n 0, 1), (26, .getfield 22, 3), (29, .iconst 1, 1), (30, .iadd, 1), (31, .goto 4, 3), (34, .iconst 0, 1), (35, .putfield 22, 3), (38, .aload_n 0, 1), (39, .aload_n 0, 1), (40, .getfield 18, 3), (43, .iconst 1, 1), (44, .iadd, 1), (45, .bipush 24, 2), (47, .invokestatic 29, 3), (50, .putfield 18, 3), (53, .return_, 1)]
set_option maxRecDepth 100000 in
theorem tk_X0_keep_1 : (tb_X0_keep_1.all fun q => decide (decode cX0_keep q.1 = .ok q.2)) = true := by decide +kernel
theorem dX0_keep_0 : decode cX0_keep 0 = .ok (.aload_n 0, 1) := tb_d tk_X0_keep_1 0 (0, .aload_n 0, 1) rfl
theorem dX0_keep_1 : decode cX0_keep 1 = .ok (.getfield 11, 3) := tb_d tk_X0_keep_1 1 (1, .getfield 11, 3) rfl
theorem dX0_keep_4 : decode cX0_keep 4 = .ok (.aload_n 0, 1) := tb_d tk_X0_keep_1 2 (4, .aload_n 0, 1) rfl
theorem dX0_keep_5 : decode cX0_keep 5 = .ok (.getfield 22, 3) := tb_d tk_X0_keep_1 3 (5, .getfield 22, 3) rfl
theorem dX0_keep_8 : decode cX0_keep 8 = .ok (.aaload, 1) := tb_d tk_X0_keep_1 4 (8, .aaload, 1) rfl
theorem dX0_keep_9 : decode cX0_keep 9 = .ok (.aload_n 1, 1) := tb_d tk_X0_keep_1 5 (9, .aload_n 1, 1) rfl
theorem dX0_keep_10 : decode cX0_keep 10 = .ok (.invokevirtual 25, 3) := tb_d tk_X0_keep_1 6 (10, .invokevirtual 25, 3) rfl
theorem dX0_keep_13 : decode cX0_keep 13 = .ok (.aload_n 0, 1) := tb_d tk_X0_keep_1 7 (13, .aload_n 0, 1) rfl
theorem dX0_keep_14 : decode cX0_keep 14 = .ok (.aload_n 0, 1) := tb_d tk_X0_keep_1 8 (14, .aload_n 0, 1) rfl
theorem dX0_keep_15 : decode cX0_keep 15 = .ok (.getfield 22, 3) := tb_d tk_X0_keep_1 9 (15, .getfield 22, 3) rfl
theorem dX0_keep_18 : decode cX0_keep 18 = .ok (.iconst 1, 1) := tb_d tk_X0_keep_1 10 (18, .iconst 1, 1) rfl
theorem dX0_keep_19 : decode cX0_keep 19 = .ok (.iadd, 1) := tb_d tk_X0_keep_1 11 (19, .iadd, 1) rfl
theorem dX0_keep_20 : decode cX0_keep 20 = .ok (.bipush 24, 2) := tb_d tk_X0_keep_1 12 (20, .bipush 24, 2) rfl
theorem dX0_keep_22 : decode cX0_keep 22 = .ok (.if_icmp .ge 12, 3) := tb_d tk_X0_keep_1 13 (22, .if_icmp .ge 12, 3) rfl
theorem dX0_keep_25 : decode cX0_keep 25 = .ok (.aload_n 0, 1) := tb_d tk_X0_keep_1 14 (25, .aload_n 0, 1) rfl
theorem dX0_keep_26 : decode cX0_keep 26 = .ok (.getfield 22, 3) := tb_d tk_X0_keep_1 15 (26, .getfield 22, 3) rfl
theorem dX0_keep_29 : decode cX0_keep 29 = .ok (.iconst 1, 1) := tb_d tk_X0_keep_1 16 (29, .iconst 1, 1) rfl
theorem dX0_keep_30 : decode cX0_keep 30 = .ok (.iadd, 1) := tb_d tk_X0_keep_1 17 (30, .iadd, 1) rfl
theorem dX0_keep_31 : decode cX0_keep 31 = .ok (.goto 4, 3) := tb_d tk_X0_keep_1 18 (31, .goto 4, 3) rfl
theorem dX0_keep_34 : decode cX0_keep 34 = .ok (.iconst 0, 1) := tb_d tk_X0_keep_1 19 (34, .iconst 0, 1) rfl
theorem dX0_keep_35 : decode cX0_keep 35 = .ok (.putfield 22, 3) := tb_d tk_X0_keep_1 20 (35, .putfield 22, 3) rfl
theorem dX0_keep_38 : decode cX0_keep 38 = .ok (.aload_n 0, 1) := tb_d tk_X0_keep_1 21 (38, .aload_n 0, 1) rfl
theorem dX0_keep_39 : decode cX0_keep 39 = .ok (.aload_n 0, 1) := tb_d tk_X0_keep_1 22 (39, .aload_n 0, 1) rfl
theorem dX0_keep_40 : decode cX0_keep 40 = .ok (.getfield 18, 3) := tb_d tk_X0_keep_1 23 (40, .getfield 18, 3) rfl
theorem dX0_keep_43 : decode cX0_keep 43 = .ok (.iconst 1, 1) := tb_d tk_X0_keep_1 24 (43, .iconst 1, 1) rfl
theorem dX0_keep_44 : decode cX0_keep 44 = .ok (.iadd, 1) := tb_d tk_X0_keep_1 25 (44, .iadd, 1) rfl
theorem dX0_keep_45 : decode cX0_keep 45 = .ok (.bipush 24, 2) := tb_d tk_X0_keep_1 26 (45, .bipush 24, 2) rfl
theorem dX0_keep_47 : decode cX0_keep 47 = .ok (.invokestatic 29, 3) := tb_d tk_X0_keep_1 27 (47, .invokestatic 29, 3) rfl
theorem dX0_keep_50 : decode cX0_keep 50 = .ok (.putfield 18, 3) := tb_d tk_X0_keep_1 28 (50, .putfield 18, 3) rfl
theorem dX0_keep_53 : decode cX0_keep 53 = .ok (.return_, 1) := tb_d tk_X0_keep_1 29 (53, .return_, 1) rfl
theorem ggX0_takeBack_X4_become : GoodIn wsX0_takeBack wsX4_become := fun w h => ⟨List.mem_cons_of_mem _ (List.mem_append_right _ (List.mem_append_right _ (List.mem_append_right _ (List.mem_append_left _ h)))), good_of_word (gdX4_become w h)⟩
set_option maxRecDepth 20000 in
theorem gX0_takeBack_X4_become : GoodIn wsX0_takeBack (wsV RX0 25 RX4 yX4_become wsX4_become) := goodIn_app (goodIn_of _ (by decide +kernel)) ggX0_takeBack_X4_become
def tb_X0_takeBack_1 : List (Nat × Instr × Nat) := [(0, .aload_n 0, 1), (1, .getfield 18, 3), (4, .ifCond .ne 5, 3), (7, .iconst 0, 1), (8, .ireturn, 1), (9, .aload_n 0, 1), (10, .aload_n 0, 1), (11, .getfield 22, 3), (14, .ifCond .le 12, 3), (17, .aload_n 0, 1), (18, .getfield 22, 3), (21, .iconst 1, 1), (22, .isub, 1), (23, .goto 5, 3), (26, .bipush 23, 2), (28, .putfield 22, 3), (31, .aload_n 0, 1), (32, .dup, 1), (33, .getfield 18, 3), (36, .iconst 1, 1), (37, .isub, 1), (38, .putfield 18, 3), (41, .aload_n 1, 1), (42, .aload_n 0, 1), (43, .getfield 11, 3), (46, .aload_n 0, 1), (47, .getfield 22, 3), (50, .aaload, 1), (51, .invokevirtual 25, 3), (54, .iconst 1, 1), (55, .ireturn, 1)]
set_option maxRecDepth 100000 in
theorem tk_X0_takeBack_1 : (tb_X0_takeBack_1.all fun q => decide (decode cX0_takeBack q.1 = .ok q.2)) = true := by decide +kernel
theorem dX0_takeBack_0 : decode cX0_takeBack 0 = .ok (.aload_n 0, 1) := tb_d tk_X0_takeBack_1 0 (0, .aload_n 0, 1) rfl
theorem dX0_takeBack_1 : decode cX0_takeBack 1 = .ok (.getfield 18, 3) := tb_d tk_X0_takeBack_1 1 (1, .getfield 18, 3) rfl
theorem dX0_takeBack_4 : decode cX0_takeBack 4 = .ok (.ifCond .ne 5, 3) := tb_d tk_X0_takeBack_1 2 (4, .ifCond .ne 5, 3) rfl
theorem dX0_takeBack_7 : decode cX0_takeBack 7 = .ok (.iconst 0, 1) := tb_d tk_X0_takeBack_1 3 (7, .iconst 0, 1) rfl
theorem dX0_takeBack_8 : decode cX0_takeBack 8 = .ok (.ireturn, 1) := tb_d tk_X0_takeBack_1 4 (8, .ireturn, 1) rfl
theorem dX0_takeBack_9 : decode cX0_takeBack 9 = .ok (.aload_n 0, 1) := tb_d tk_X0_takeBack_1 5 (9, .aload_n 0, 1) rfl
theorem dX0_takeBack_10 : decode cX0_takeBack 10 = .ok (.aload_n 0, 1) := tb_d tk_X0_takeBack_1 6 (10, .aload_n 0, 1) rfl
theorem dX0_takeBack_11 : decode cX0_takeBack 11 = .ok (.getfield 22, 3) := tb_d tk_X0_takeBack_1 7 (11, .getfield 22, 3) rfl
theorem dX0_takeBack_14 : decode cX0_takeBack 14 = .ok (.ifCond .le 12, 3) := tb_d tk_X0_takeBack_1 8 (14, .ifCond .le 12, 3) rfl
theorem dX0_takeBack_17 : decode cX0_takeBack 17 = .ok (.aload_n 0, 1) := tb_d tk_X0_takeBack_1 9 (17, .aload_n 0, 1) rfl
theorem dX0_takeBack_18 : decode cX0_takeBack 18 = .ok (.getfield 22, 3) := tb_d tk_X0_takeBack_1 10 (18, .getfield 22, 3) rfl
theorem dX0_takeBack_21 : decode cX0_takeBack 21 = .ok (.iconst 1, 1) := tb_d tk_X0_takeBack_1 11 (21, .iconst 1, 1) rfl
theorem dX0_takeBack_22 : decode cX0_takeBack 22 = .ok (.isub, 1) := tb_d tk_X0_takeBack_1 12 (22, .isub, 1) rfl
theorem dX0_takeBack_23 : decode cX0_takeBack 23 = .ok (.goto 5, 3) := tb_d tk_X0_takeBack_1 13 (23, .goto 5, 3) rfl
theorem dX0_takeBack_26 : decode cX0_takeBack 26 = .ok (.bipush 23, 2) := tb_d tk_X0_takeBack_1 14 (26, .bipush 23, 2) rfl
theorem dX0_takeBack_28 : decode cX0_takeBack 28 = .ok (.putfield 22, 3) := tb_d tk_X0_takeBack_1 15 (28, .putfield 22, 3) rfl
theorem dX0_takeBack_31 : decode cX0_takeBack 31 = .ok (.aload_n 0, 1) := tb_d tk_X0_takeBack_1 16 (31, .aload_n 0, 1) rfl
theorem dX0_takeBack_32 : decode cX0_takeBack 32 = .ok (.dup, 1) := tb_d tk_X0_takeBack_1 17 (32, .dup, 1) rfl
theorem dX0_takeBack_33 : decode cX0_takeBack 33 = .ok (.getfield 18, 3) := tb_d tk_X0_takeBack_1 18 (33, .getfield 18, 3) rfl
theorem dX0_takeBack_36 : decode cX0_takeBack 36 = .ok (.iconst 1, 1) := tb_d tk_X0_takeBack_1 19 (36, .iconst 1, 1) rfl
theorem dX0_takeBack_37 : decode cX0_takeBack 37 = .ok (.isub, 1) := tb_d tk_X0_takeBack_1 20 (37, .isub, 1) rfl
theorem dX0_takeBack_38 : decode cX0_takeBack 38 = .ok (.putfield 18, 3) := tb_d tk_X0_takeBack_1 21 (38, .putfield 18, 3) rfl
theorem dX0_takeBack_41 : decode cX0_takeBack 41 = .ok (.aload_n 1, 1) := tb_d tk_X0_takeBack_1 22 (41, .aload_n 1, 1) rfl
theorem dX0_takeBack_42 : decode cX0_takeBack 42 = .ok (.aload_n 0, 1) := tb_d tk_X0_takeBack_1 23 (42, .aload_n 0, 1) rfl
theorem dX0_takeBack_43 : decode cX0_takeBack 43 = .ok (.getfield 11, 3) := tb_d tk_X0_takeBack_1 24 (43, .getfield 11, 3) rfl
theorem dX0_takeBack_46 : decode cX0_takeBack 46 = .ok (.aload_n 0, 1) := tb_d tk_X0_takeBack_1 25 (46, .aload_n 0, 1) rfl
theorem dX0_takeBack_47 : decode cX0_takeBack 47 = .ok (.getfield 22, 3) := tb_d tk_X0_takeBack_1 26 (47, .getfield 22, 3) rfl
theorem dX0_takeBack_50 : decode cX0_takeBack 50 = .ok (.aaload, 1) := tb_d tk_X0_takeBack_1 27 (50, .aaload, 1) rfl
theorem dX0_takeBack_51 : decode cX0_takeBack 51 = .ok (.invokevirtual 25, 3) := tb_d tk_X0_takeBack_1 28 (51, .invokevirtual 25, 3) rfl
theorem dX0_takeBack_54 : decode cX0_takeBack 54 = .ok (.iconst 1, 1) := tb_d tk_X0_takeBack_1 29 (54, .iconst 1, 1) rfl
theorem dX0_takeBack_55 : decode cX0_takeBack 55 = .ok (.ireturn, 1) := tb_d tk_X0_takeBack_1 30 (55, .ireturn, 1) rfl
def tb_X1_init_1 : List (Nat × Instr × Nat) := [(0, .aload_n 0, 1), (1, .invokespecial 3, 3), (4, .aload_n 0, 1), (5, .bipush 16, 2), (7, .newarray .int, 2), (9, .putfield 11, 3), (12, .return_, 1)]
set_option maxRecDepth 100000 in
theorem tk_X1_init_1 : (tb_X1_init_1.all fun q => decide (decode cX1_init q.1 = .ok q.2)) = true := by decide +kernel
theorem dX1_init_0 : decode cX1_init 0 = .ok (.aload_n 0, 1) := tb_d tk_X1_init_1 0 (0, .aload_n 0, 1) rfl
theorem dX1_init_1 : decode cX1_init 1 = .ok (.invokespecial 3, 3) := tb_d tk_X1_init_1 1 (1, .invokespecial 3, 3) rfl
theorem dX1_init_4 : decode cX1_init 4 = .ok (.aload_n 0, 1) := tb_d tk_X1_init_1 2 (4, .aload_n 0, 1) rfl
theorem dX1_init_5 : decode cX1_init 5 = .ok (.bipush 16, 2) := tb_d tk_X1_init_1 3 (5, .bipush 16, 2) rfl
theorem dX1_init_7 : decode cX1_init 7 = .ok (.newarray .int, 2) := tb_d tk_X1_init_1 4 (7, .newarray .int, 2) rfl
theorem dX1_init_9 : decode cX1_init 9 = .ok (.putfield 11, 3) := tb_d tk_X1_init_1 5 (9, .putfield 11, 3) rfl
theorem dX1_init_12 : decode cX1_init 12 = .ok (.return_, 1) := tb_d tk_X1_init_1 6 (12, .return_, 1) rfl
def tb_X1_isA_1 : List (Nat × Instr × Nat) := [(0, .iload_n 0, 1), (1, .istore_n 2, 1), (2, .iconst 0, 1), (3, .istore_n 3, 1), (4, .iload_n 3, 1), (5, .iconst 5, 1), (6, .if_icmp .gt 31, 3), (9, .iload_n 2, 1), (10, .ifCond .lt 27, 3), (13, .iload_n 2, 1), (14, .iconst 5, 1), (15, .if_icmp .gt 22, 3), (18, .iload_n 2, 1), (19, .iload_n 1, 1), (20, .if_icmp .ne 5, 3), (23, .iconst 1, 1), (24, .ireturn, 1), (25, .getstatic 15, 3), (28, .iload_n 2, 1), (29, .iaload, 1), (30, .istore_n 2, 1), (31, .iinc 3 1, 3), (34, .goto (-30), 3), (37, .iconst 0, 1), (38, .ireturn, 1)]
set_option maxRecDepth 100000 in
theorem tk_X1_isA_1 : (tb_X1_isA_1.all fun q => decide (decode cX1_isA q.1 = .ok q.2)) = true := by decide +kernel
theorem dX1_isA_0 : decode cX1_isA 0 = .ok (.iload_n 0, 1) := tb_d tk_X1_isA_1 0 (0, .iload_n 0, 1) rfl
theorem dX1_isA_1 : decode cX1_isA 1 = .ok (.istore_n 2, 1) := tb_d tk_X1_isA_1 1 (1, .istore_n 2, 1) rfl
theorem dX1_isA_2 : decode cX1_isA 2 = .ok (.iconst 0, 1) := tb_d tk_X1_isA_1 2 (2, .iconst 0, 1) rfl
theorem dX1_isA_3 : decode cX1_isA 3 = .ok (.istore_n 3, 1) := tb_d tk_X1_isA_1 3 (3, .istore_n 3, 1) rfl
theorem dX1_isA_4 : decode cX1_isA 4 = .ok (.iload_n 3, 1) := tb_d tk_X1_isA_1 4 (4, .iload_n 3, 1) rfl
theorem dX1_isA_5 : decode cX1_isA 5 = .ok (.iconst 5, 1) := tb_d tk_X1_isA_1 5 (5, .iconst 5, 1) rfl
theorem dX1_isA_6 : decode cX1_isA 6 = .ok (.if_icmp .gt 31, 3) := tb_d tk_X1_isA_1 6 (6, .if_icmp .gt 31, 3) rfl
theorem dX1_isA_9 : decode cX1_isA 9 = .ok (.iload_n 2, 1) := tb_d tk_X1_isA_1 7 (9, .iload_n 2, 1) rfl
theorem dX1_isA_10 : decode cX1_isA 10 = .ok (.ifCond .lt 27, 3) := tb_d tk_X1_isA_1 8 (10, .ifCond .lt 27, 3) rfl
theorem dX1_isA_13 : decode cX1_isA 13 = .ok (.iload_n 2, 1) := tb_d tk_X1_isA_1 9 (13, .iload_n 2, 1) rfl
theorem dX1_isA_14 : decode cX1_isA 14 = .ok (.iconst 5, 1) := tb_d tk_X1_isA_1 10 (14, .iconst 5, 1) rfl
theorem dX1_isA_15 : decode cX1_isA 15 = .ok (.if_icmp .gt 22, 3) := tb_d tk_X1_isA_1 11 (15, .if_icmp .gt 22, 3) rfl
theorem dX1_isA_18 : decode cX1_isA 18 = .ok (.iload_n 2, 1) := tb_d tk_X1_isA_1 12 (18, .iload_n 2, 1) rfl
theorem dX1_isA_19 : decode cX1_isA 19 = .ok (.iload_n 1, 1) := tb_d tk_X1_isA_1 13 (19, .iload_n 1, 1) rfl
theorem dX1_isA_20 : decode cX1_isA 20 = .ok (.if_icmp .ne 5, 3) := tb_d tk_X1_isA_1 14 (20, .if_icmp .ne 5, 3) rfl
theorem dX1_isA_23 : decode cX1_isA 23 = .ok (.iconst 1, 1) := tb_d tk_X1_isA_1 15 (23, .iconst 1, 1) rfl
theorem dX1_isA_24 : decode cX1_isA 24 = .ok (.ireturn, 1) := tb_d tk_X1_isA_1 16 (24, .ireturn, 1) rfl
theorem dX1_isA_25 : decode cX1_isA 25 = .ok (.getstatic 15, 3) := tb_d tk_X1_isA_1 17 (25, .getstatic 15, 3) rfl
theorem dX1_isA_28 : decode cX1_isA 28 = .ok (.iload_n 2, 1) := tb_d tk_X1_isA_1 18 (28, .iload_n 2, 1) rfl
theorem dX1_isA_29 : decode cX1_isA 29 = .ok (.iaload, 1) := tb_d tk_X1_isA_1 19 (29, .iaload, 1) rfl
theorem dX1_isA_30 : decode cX1_isA 30 = .ok (.istore_n 2, 1) := tb_d tk_X1_isA_1 20 (30, .istore_n 2, 1) rfl
theorem dX1_isA_31 : decode cX1_isA 31 = .ok (.iinc 3 1, 3) := tb_d tk_X1_isA_1 21 (31, .iinc 3 1, 3) rfl
theorem dX1_isA_34 : decode cX1_isA 34 = .ok (.goto (-30), 3) := tb_d tk_X1_isA_1 22 (34, .goto (-30), 3) rfl
theorem dX1_isA_37 : decode cX1_isA 37 = .ok (.iconst 0, 1) := tb_d tk_X1_isA_1 23 (37, .iconst 0, 1) rfl
theorem dX1_isA_38 : decode cX1_isA 38 = .ok (.ireturn, 1) := tb_d tk_X1_isA_1 24 (38, .ireturn, 1) rfl
def tb_X1_turnTo_1 : List (Nat × Instr × Nat) := [(0, .aload_n 0, 1), (1, .iload_n 1, 1), (2, .putfield 18, 3), (5, .aload_n 0, 1), (6, .iload_n 2, 1), (7, .putfield 22, 3), (10, .aload_n 0, 1), (11, .iload_n 3, 1), (12, .putfield 25, 3), (15, .aload_n 0, 1), (16, .iload 4, 2), (18, .putfield 28, 3), (21, .aload_n 0, 1), (22, .iconst 0, 1), (23, .putfield 31, 3), (26, .return_, 1)]
set_option maxRecDepth 100000 in
theorem tk_X1_turnTo_1 : (tb_X1_turnTo_1.all fun q => decide (decode cX1_turnTo q.1 = .ok q.2)) = true := by decide +kernel
theorem dX1_turnTo_0 : decode cX1_turnTo 0 = .ok (.aload_n 0, 1) := tb_d tk_X1_turnTo_1 0 (0, .aload_n 0, 1) rfl
theorem dX1_turnTo_1 : decode cX1_turnTo 1 = .ok (.iload_n 1, 1) := tb_d tk_X1_turnTo_1 1 (1, .iload_n 1, 1) rfl
theorem dX1_turnTo_2 : decode cX1_turnTo 2 = .ok (.putfield 18, 3) := tb_d tk_X1_turnTo_1 2 (2, .putfield 18, 3) rfl
theorem dX1_turnTo_5 : decode cX1_turnTo 5 = .ok (.aload_n 0, 1) := tb_d tk_X1_turnTo_1 3 (5, .aload_n 0, 1) rfl
theorem dX1_turnTo_6 : decode cX1_turnTo 6 = .ok (.iload_n 2, 1) := tb_d tk_X1_turnTo_1 4 (6, .iload_n 2, 1) rfl
theorem dX1_turnTo_7 : decode cX1_turnTo 7 = .ok (.putfield 22, 3) := tb_d tk_X1_turnTo_1 5 (7, .putfield 22, 3) rfl
theorem dX1_turnTo_10 : decode cX1_turnTo 10 = .ok (.aload_n 0, 1) := tb_d tk_X1_turnTo_1 6 (10, .aload_n 0, 1) rfl
theorem dX1_turnTo_11 : decode cX1_turnTo 11 = .ok (.iload_n 3, 1) := tb_d tk_X1_turnTo_1 7 (11, .iload_n 3, 1) rfl
theorem dX1_turnTo_12 : decode cX1_turnTo 12 = .ok (.putfield 25, 3) := tb_d tk_X1_turnTo_1 8 (12, .putfield 25, 3) rfl
theorem dX1_turnTo_15 : decode cX1_turnTo 15 = .ok (.aload_n 0, 1) := tb_d tk_X1_turnTo_1 9 (15, .aload_n 0, 1) rfl
theorem dX1_turnTo_16 : decode cX1_turnTo 16 = .ok (.iload 4, 2) := tb_d tk_X1_turnTo_1 10 (16, .iload 4, 2) rfl
theorem dX1_turnTo_18 : decode cX1_turnTo 18 = .ok (.putfield 28, 3) := tb_d tk_X1_turnTo_1 11 (18, .putfield 28, 3) rfl
theorem dX1_turnTo_21 : decode cX1_turnTo 21 = .ok (.aload_n 0, 1) := tb_d tk_X1_turnTo_1 12 (21, .aload_n 0, 1) rfl
theorem dX1_turnTo_22 : decode cX1_turnTo 22 = .ok (.iconst 0, 1) := tb_d tk_X1_turnTo_1 13 (22, .iconst 0, 1) rfl
theorem dX1_turnTo_23 : decode cX1_turnTo 23 = .ok (.putfield 31, 3) := tb_d tk_X1_turnTo_1 14 (23, .putfield 31, 3) rfl
theorem dX1_turnTo_26 : decode cX1_turnTo 26 = .ok (.return_, 1) := tb_d tk_X1_turnTo_1 15 (26, .return_, 1) rfl
theorem ggX1_answer_X1_sizeBody : GoodIn wsX1_answer wsX1_sizeBody := fun w h => ⟨List.mem_cons_of_mem _ (List.mem_append_right _ (List.mem_append_right _ (List.mem_append_left _ h))), good_of_word (gdX1_sizeBody w h)⟩
set_option maxRecDepth 20000 in
theorem gX1_answer_X1_sizeBody : GoodIn wsX1_answer (wsV RX1 34 RX1 yX1_sizeBody wsX1_sizeBody) := goodIn_app (goodIn_of _ (by decide +kernel)) ggX1_answer_X1_sizeBody
theorem ggX1_answer_X1_markBody : GoodIn wsX1_answer wsX1_markBody := fun w h => ⟨List.mem_cons_of_mem _ (List.mem_append_right _ (List.mem_append_right _ (List.mem_append_right _ (List.mem_append_left _ h)))), good_of_word (gdX1_markBody w h)⟩
set_option maxRecDepth 20000 in
theorem gX1_answer_X1_markBody : GoodIn wsX1_answer (wsV RX1 38 RX1 yX1_markBody wsX1_markBody) := goodIn_app (goodIn_of _ (by decide +kernel)) ggX1_answer_X1_markBody
theorem ggX1_answer_X1_given : GoodIn wsX1_answer wsX1_given := fun w h => ⟨List.mem_cons_of_mem _ (List.mem_append_right _ (List.mem_append_right _ (List.mem_append_right _ (List.mem_append_right _ (List.mem_append_left _ h))))), good_of_word (gdX1_given w h)⟩
set_option maxRecDepth 20000 in
theorem gX1_answer_X1_given : GoodIn wsX1_answer (va_wsS RX1 41 yX1_given wsX1_given) := goodIn_app (goodIn_of _ (by decide +kernel)) ggX1_answer_X1_given
def tb_X1_answer_1 : List (Nat × Instr × Nat) := [(0, .aload_n 0, 1), (1, .iload_n 1, 1), (2, .ifCond .ne 10, 3), (5, .aload_n 0, 1), (6, .invokevirtual 34, 3), (9, .goto 7, 3), (12, .aload_n 0, 1), (13, .invokevirtual 38, 3), (16, .iconst 0, 1), (17, .invokestatic 41, 3), (20, .ireturn, 1)]
set_option maxRecDepth 100000 in
theorem tk_X1_answer_1 : (tb_X1_answer_1.all fun q => decide (decode cX1_answer q.1 = .ok q.2)) = true := by decide +kernel
theorem dX1_answer_0 : decode cX1_answer 0 = .ok (.aload_n 0, 1) := tb_d tk_X1_answer_1 0 (0, .aload_n 0, 1) rfl
theorem dX1_answer_1 : decode cX1_answer 1 = .ok (.iload_n 1, 1) := tb_d tk_X1_answer_1 1 (1, .iload_n 1, 1) rfl
theorem dX1_answer_2 : decode cX1_answer 2 = .ok (.ifCond .ne 10, 3) := tb_d tk_X1_answer_1 2 (2, .ifCond .ne 10, 3) rfl
theorem dX1_answer_5 : decode cX1_answer 5 = .ok (.aload_n 0, 1) := tb_d tk_X1_answer_1 3 (5, .aload_n 0, 1) rfl
theorem dX1_answer_6 : decode cX1_answer 6 = .ok (.invokevirtual 34, 3) := tb_d tk_X1_answer_1 4 (6, .invokevirtual 34, 3) rfl
theorem dX1_answer_9 : decode cX1_answer 9 = .ok (.goto 7, 3) := tb_d tk_X1_answer_1 5 (9, .goto 7, 3) rfl
theorem dX1_answer_12 : decode cX1_answer 12 = .ok (.aload_n 0, 1) := tb_d tk_X1_answer_1 6 (12, .aload_n 0, 1) rfl
theorem dX1_answer_13 : decode cX1_answer 13 = .ok (.invokevirtual 38, 3) := tb_d tk_X1_answer_1 7 (13, .invokevirtual 38, 3) rfl
theorem dX1_answer_16 : decode cX1_answer 16 = .ok (.iconst 0, 1) := tb_d tk_X1_answer_1 8 (16, .iconst 0, 1) rfl
theorem dX1_answer_17 : decode cX1_answer 17 = .ok (.invokestatic 41, 3) := tb_d tk_X1_answer_1 9 (17, .invokestatic 41, 3) rfl
theorem dX1_answer_20 : decode cX1_answer 20 = .ok (.ireturn, 1) := tb_d tk_X1_answer_1 10 (20, .ireturn, 1) rfl
def tb_X1_sizeBody_1 : List (Nat × Instr × Nat) := [(0, .getstatic 45, 3), (3, .aload_n 0, 1), (4, .getfield 22, 3), (7, .ifCond .lt 18, 3), (10, .aload_n 0, 1), (11, .getfield 22, 3), (14, .iconst 5, 1), (15, .if_icmp .gt 10, 3), (18, .aload_n 0, 1), (19, .getfield 22, 3), (22, .goto 4, 3), (25, .iconst 0, 1), (26, .iaload, 1), (27, .ireturn, 1)]
set_option maxRecDepth 100000 in
theorem tk_X1_sizeBody_1 : (tb_X1_sizeBody_1.all fun q => decide (decode cX1_sizeBody q.1 = .ok q.2)) = true := by decide +kernel
theorem dX1_sizeBody_0 : decode cX1_sizeBody 0 = .ok (.getstatic 45, 3) := tb_d tk_X1_sizeBody_1 0 (0, .getstatic 45, 3) rfl
theorem dX1_sizeBody_3 : decode cX1_sizeBody 3 = .ok (.aload_n 0, 1) := tb_d tk_X1_sizeBody_1 1 (3, .aload_n 0, 1) rfl
theorem dX1_sizeBody_4 : decode cX1_sizeBody 4 = .ok (.getfield 22, 3) := tb_d tk_X1_sizeBody_1 2 (4, .getfield 22, 3) rfl
theorem dX1_sizeBody_7 : decode cX1_sizeBody 7 = .ok (.ifCond .lt 18, 3) := tb_d tk_X1_sizeBody_1 3 (7, .ifCond .lt 18, 3) rfl
theorem dX1_sizeBody_10 : decode cX1_sizeBody 10 = .ok (.aload_n 0, 1) := tb_d tk_X1_sizeBody_1 4 (10, .aload_n 0, 1) rfl
theorem dX1_sizeBody_11 : decode cX1_sizeBody 11 = .ok (.getfield 22, 3) := tb_d tk_X1_sizeBody_1 5 (11, .getfield 22, 3) rfl
theorem dX1_sizeBody_14 : decode cX1_sizeBody 14 = .ok (.iconst 5, 1) := tb_d tk_X1_sizeBody_1 6 (14, .iconst 5, 1) rfl
theorem dX1_sizeBody_15 : decode cX1_sizeBody 15 = .ok (.if_icmp .gt 10, 3) := tb_d tk_X1_sizeBody_1 7 (15, .if_icmp .gt 10, 3) rfl
theorem dX1_sizeBody_18 : decode cX1_sizeBody 18 = .ok (.aload_n 0, 1) := tb_d tk_X1_sizeBody_1 8 (18, .aload_n 0, 1) rfl
theorem dX1_sizeBody_19 : decode cX1_sizeBody 19 = .ok (.getfield 22, 3) := tb_d tk_X1_sizeBody_1 9 (19, .getfield 22, 3) rfl
theorem dX1_sizeBody_22 : decode cX1_sizeBody 22 = .ok (.goto 4, 3) := tb_d tk_X1_sizeBody_1 10 (22, .goto 4, 3) rfl
theorem dX1_sizeBody_25 : decode cX1_sizeBody 25 = .ok (.iconst 0, 1) := tb_d tk_X1_sizeBody_1 11 (25, .iconst 0, 1) rfl
theorem dX1_sizeBody_26 : decode cX1_sizeBody 26 = .ok (.iaload, 1) := tb_d tk_X1_sizeBody_1 12 (26, .iaload, 1) rfl
theorem dX1_sizeBody_27 : decode cX1_sizeBody 27 = .ok (.ireturn, 1) := tb_d tk_X1_sizeBody_1 13 (27, .ireturn, 1) rfl
def tb_X1_markBody_1 : List (Nat × Instr × Nat) := [(0, .getstatic 48, 3), (3, .aload_n 0, 1), (4, .getfield 22, 3), (7, .ifCond .lt 18, 3), (10, .aload_n 0, 1), (11, .getfield 22, 3), (14, .iconst 5, 1), (15, .if_icmp .gt 10, 3), (18, .aload_n 0, 1), (19, .getfield 22, 3), (22, .goto 4, 3), (25, .iconst 0, 1), (26, .iaload, 1), (27, .ireturn, 1)]
set_option maxRecDepth 100000 in
theorem tk_X1_markBody_1 : (tb_X1_markBody_1.all fun q => decide (decode cX1_markBody q.1 = .ok q.2)) = true := by decide +kernel
theorem dX1_markBody_0 : decode cX1_markBody 0 = .ok (.getstatic 48, 3) := tb_d tk_X1_markBody_1 0 (0, .getstatic 48, 3) rfl
theorem dX1_markBody_3 : decode cX1_markBody 3 = .ok (.aload_n 0, 1) := tb_d tk_X1_markBody_1 1 (3, .aload_n 0, 1) rfl
theorem dX1_markBody_4 : decode cX1_markBody 4 = .ok (.getfield 22, 3) := tb_d tk_X1_markBody_1 2 (4, .getfield 22, 3) rfl
theorem dX1_markBody_7 : decode cX1_markBody 7 = .ok (.ifCond .lt 18, 3) := tb_d tk_X1_markBody_1 3 (7, .ifCond .lt 18, 3) rfl
theorem dX1_markBody_10 : decode cX1_markBody 10 = .ok (.aload_n 0, 1) := tb_d tk_X1_markBody_1 4 (10, .aload_n 0, 1) rfl
theorem dX1_markBody_11 : decode cX1_markBody 11 = .ok (.getfield 22, 3) := tb_d tk_X1_markBody_1 5 (11, .getfield 22, 3) rfl
theorem dX1_markBody_14 : decode cX1_markBody 14 = .ok (.iconst 5, 1) := tb_d tk_X1_markBody_1 6 (14, .iconst 5, 1) rfl
theorem dX1_markBody_15 : decode cX1_markBody 15 = .ok (.if_icmp .gt 10, 3) := tb_d tk_X1_markBody_1 7 (15, .if_icmp .gt 10, 3) rfl
theorem dX1_markBody_18 : decode cX1_markBody 18 = .ok (.aload_n 0, 1) := tb_d tk_X1_markBody_1 8 (18, .aload_n 0, 1) rfl
theorem dX1_markBody_19 : decode cX1_markBody 19 = .ok (.getfield 22, 3) := tb_d tk_X1_markBody_1 9 (19, .getfield 22, 3) rfl
theorem dX1_markBody_22 : decode cX1_markBody 22 = .ok (.goto 4, 3) := tb_d tk_X1_markBody_1 10 (22, .goto 4, 3) rfl
theorem dX1_markBody_25 : decode cX1_markBody 25 = .ok (.iconst 0, 1) := tb_d tk_X1_markBody_1 11 (25, .iconst 0, 1) rfl
theorem dX1_markBody_26 : decode cX1_markBody 26 = .ok (.iaload, 1) := tb_d tk_X1_markBody_1 12 (26, .iaload, 1) rfl
theorem dX1_markBody_27 : decode cX1_markBody 27 = .ok (.ireturn, 1) := tb_d tk_X1_markBody_1 13 (27, .ireturn, 1) rfl
def tb_X1_leave_1 : List (Nat × Instr × Nat) := [(0, .aload_n 0, 1), (1, .getfield 31, 3), (4, .bipush 16, 2), (6, .if_icmp .ge 23, 3), (9, .aload_n 0, 1), (10, .getfield 11, 3), (13, .aload_n 0, 1), (14, .getfield 31, 3), (17, .iload_n 1, 1), (18, .iastore, 1), (19, .aload_n 0, 1), (20, .dup, 1), (21, .getfield 31, 3), (24, .iconst 1, 1), (25, .iadd, 1), (26, .putfield 31, 3), (29, .return_, 1)]
set_option maxRecDepth 100000 in
theorem tk_X1_leave_1 : (tb_X1_leave_1.all fun q => decide (decode cX1_leave q.1 = .ok q.2)) = true := by decide +kernel
theorem dX1_leave_0 : decode cX1_leave 0 = .ok (.aload_n 0, 1) := tb_d tk_X1_leave_1 0 (0, .aload_n 0, 1) rfl
theorem dX1_leave_1 : decode cX1_leave 1 = .ok (.getfield 31, 3) := tb_d tk_X1_leave_1 1 (1, .getfield 31, 3) rfl
theorem dX1_leave_4 : decode cX1_leave 4 = .ok (.bipush 16, 2) := tb_d tk_X1_leave_1 2 (4, .bipush 16, 2) rfl
theorem dX1_leave_6 : decode cX1_leave 6 = .ok (.if_icmp .ge 23, 3) := tb_d tk_X1_leave_1 3 (6, .if_icmp .ge 23, 3) rfl
theorem dX1_leave_9 : decode cX1_leave 9 = .ok (.aload_n 0, 1) := tb_d tk_X1_leave_1 4 (9, .aload_n 0, 1) rfl
theorem dX1_leave_10 : decode cX1_leave 10 = .ok (.getfield 11, 3) := tb_d tk_X1_leave_1 5 (10, .getfield 11, 3) rfl
theorem dX1_leave_13 : decode cX1_leave 13 = .ok (.aload_n 0, 1) := tb_d tk_X1_leave_1 6 (13, .aload_n 0, 1) rfl
theorem dX1_leave_14 : decode cX1_leave 14 = .ok (.getfield 31, 3) := tb_d tk_X1_leave_1 7 (14, .getfield 31, 3) rfl
theorem dX1_leave_17 : decode cX1_leave 17 = .ok (.iload_n 1, 1) := tb_d tk_X1_leave_1 8 (17, .iload_n 1, 1) rfl
theorem dX1_leave_18 : decode cX1_leave 18 = .ok (.iastore, 1) := tb_d tk_X1_leave_1 9 (18, .iastore, 1) rfl
theorem dX1_leave_19 : decode cX1_leave 19 = .ok (.aload_n 0, 1) := tb_d tk_X1_leave_1 10 (19, .aload_n 0, 1) rfl
theorem dX1_leave_20 : decode cX1_leave 20 = .ok (.dup, 1) := tb_d tk_X1_leave_1 11 (20, .dup, 1) rfl
theorem dX1_leave_21 : decode cX1_leave 21 = .ok (.getfield 31, 3) := tb_d tk_X1_leave_1 12 (21, .getfield 31, 3) rfl
theorem dX1_leave_24 : decode cX1_leave 24 = .ok (.iconst 1, 1) := tb_d tk_X1_leave_1 13 (24, .iconst 1, 1) rfl
theorem dX1_leave_25 : decode cX1_leave 25 = .ok (.iadd, 1) := tb_d tk_X1_leave_1 14 (25, .iadd, 1) rfl
theorem dX1_leave_26 : decode cX1_leave 26 = .ok (.putfield 31, 3) := tb_d tk_X1_leave_1 15 (26, .putfield 31, 3) rfl
theorem dX1_leave_29 : decode cX1_leave 29 = .ok (.return_, 1) := tb_d tk_X1_leave_1 16 (29, .return_, 1) rfl
theorem ggX1_given_X1_leave : GoodIn wsX1_given wsX1_leave := fun w h => ⟨List.mem_cons_of_mem _ (List.mem_append_right _ (List.mem_append_right _ (List.mem_append_left _ h))), good_of_word (gdX1_leave w h)⟩
set_option maxRecDepth 20000 in
theorem gX1_given_X1_leave : GoodIn wsX1_given (wsV RX1 51 RX1 yX1_leave wsX1_leave) := goodIn_app (goodIn_of _ (by decide +kernel)) ggX1_given_X1_leave
theorem ggX1_given_X1_given : GoodIn wsX1_given wsX1_given := fun w h => ⟨h, good_of_word (gdX1_given w h)⟩
set_option maxRecDepth 20000 in
theorem gX1_given_X1_given : GoodIn wsX1_given (va_wsS RX1 41 yX1_given wsX1_given) := goodIn_app (goodIn_of _ (by decide +kernel)) ggX1_given_X1_given
theorem ggX1_given_X1_markBody : GoodIn wsX1_given wsX1_markBody := fun w h => ⟨List.mem_cons_of_mem _ (List.mem_append_right _ (List.mem_append_right _ (List.mem_append_right _ (List.mem_append_left _ h)))), good_of_word (gdX1_markBody w h)⟩
set_option maxRecDepth 20000 in
theorem gX1_given_X1_markBody : GoodIn wsX1_given (wsV RX1 38 RX1 yX1_markBody wsX1_markBody) := goodIn_app (goodIn_of _ (by decide +kernel)) ggX1_given_X1_markBody
theorem ggX1_given_X1_sizeBody : GoodIn wsX1_given wsX1_sizeBody := fun w h => ⟨List.mem_cons_of_mem _ (List.mem_append_right _ (List.mem_append_right _ (List.mem_append_right _ (List.mem_append_right _ (List.mem_append_left _ h))))), good_of_word (gdX1_sizeBody w h)⟩
set_option maxRecDepth 20000 in
theorem gX1_given_X1_sizeBody : GoodIn wsX1_given (wsV RX1 34 RX1 yX1_sizeBody wsX1_sizeBody) := goodIn_app (goodIn_of _ (by decide +kernel)) ggX1_given_X1_sizeBody
def tb_X1_given_1 : List (Nat × Instr × Nat) := [(0, .iload_n 2, 1), (1, .bipush 20, 2), (3, .if_icmp .le 5, 3), (6, .iconst 0, 1), (7, .ireturn, 1), (8, .aload_n 0, 1), (9, .iload_n 1, 1), (10, .invokevirtual 51, 3), (13, .iload_n 2, 1), (14, .iconst 1, 1), (15, .iadd, 1), (16, .istore_n 3, 1), (17, .iload_n 1, 1), (18, .tableswitch 185 10 24 #[74, 79, 97, 106, 117, 185, 185, 185, 185, 185, 127, 132, 145, 157, 175], 74), (92, .aload_n 0, 1), (93, .getfield 25, 3), (96, .ireturn, 1), (97, .aload_n 0, 1), (98, .bipush 10, 2), (100, .iload_n 3, 1), (101, .invokestatic 41, 3), (104, .aload_n 0, 1), (105, .aload_n 0, 1), (106, .invokevirtual 38, 3), (109, .iload_n 3, 1), (110, .invokestatic 41, 3), (113, .iadd, 1), (114, .ireturn, 1), (115, .aload_n 0, 1), (116, .bipush 11, 2), (118, .iload_n 3, 1), (119, .invokestatic 41, 3), (122, .ineg, 1), (123, .ireturn, 1), (124, .aload_n 0, 1), (125, .bipush 10, 2), (127, .iload_n 3, 1), (128, .invokestatic 41, 3), (131, .bipush 100, 2), (133, .isub, 1)]
set_option maxRecDepth 100000 in
theorem tk_X1_given_1 : (tb_X1_given_1.all fun q => decide (decode cX1_given q.1 = .ok q.2)) = true := by decide +kernel
theorem dX1_given_0 : decode cX1_given 0 = .ok (.iload_n 2, 1) := tb_d tk_X1_given_1 0 (0, .iload_n 2, 1) rfl
theorem dX1_given_1 : decode cX1_given 1 = .ok (.bipush 20, 2) := tb_d tk_X1_given_1 1 (1, .bipush 20, 2) rfl
theorem dX1_given_3 : decode cX1_given 3 = .ok (.if_icmp .le 5, 3) := tb_d tk_X1_given_1 2 (3, .if_icmp .le 5, 3) rfl
theorem dX1_given_6 : decode cX1_given 6 = .ok (.iconst 0, 1) := tb_d tk_X1_given_1 3 (6, .iconst 0, 1) rfl
theorem dX1_given_7 : decode cX1_given 7 = .ok (.ireturn, 1) := tb_d tk_X1_given_1 4 (7, .ireturn, 1) rfl
theorem dX1_given_8 : decode cX1_given 8 = .ok (.aload_n 0, 1) := tb_d tk_X1_given_1 5 (8, .aload_n 0, 1) rfl
theorem dX1_given_9 : decode cX1_given 9 = .ok (.iload_n 1, 1) := tb_d tk_X1_given_1 6 (9, .iload_n 1, 1) rfl
theorem dX1_given_10 : decode cX1_given 10 = .ok (.invokevirtual 51, 3) := tb_d tk_X1_given_1 7 (10, .invokevirtual 51, 3) rfl
theorem dX1_given_13 : decode cX1_given 13 = .ok (.iload_n 2, 1) := tb_d tk_X1_given_1 8 (13, .iload_n 2, 1) rfl
theorem dX1_given_14 : decode cX1_given 14 = .ok (.iconst 1, 1) := tb_d tk_X1_given_1 9 (14, .iconst 1, 1) rfl
theorem dX1_given_15 : decode cX1_given 15 = .ok (.iadd, 1) := tb_d tk_X1_given_1 10 (15, .iadd, 1) rfl
theorem dX1_given_16 : decode cX1_given 16 = .ok (.istore_n 3, 1) := tb_d tk_X1_given_1 11 (16, .istore_n 3, 1) rfl
theorem dX1_given_17 : decode cX1_given 17 = .ok (.iload_n 1, 1) := tb_d tk_X1_given_1 12 (17, .iload_n 1, 1) rfl
theorem dX1_given_18 : decode cX1_given 18 = .ok (.tableswitch 185 10 24 #[74, 79, 97, 106, 117, 185, 185, 185, 185, 185, 127, 132, 145, 157, 175], 74) := tb_d tk_X1_given_1 13 (18, .tableswitch 185 10 24 #[74, 79, 97, 106, 117, 185, 185, 185, 185, 185, 127, 132, 145, 157, 175], 74) rfl
theorem dX1_given_92 : decode cX1_given 92 = .ok (.aload_n 0, 1) := tb_d tk_X1_given_1 14 (92, .aload_n 0, 1) rfl
theorem dX1_given_93 : decode cX1_given 93 = .ok (.getfield 25, 3) := tb_d tk_X1_given_1 15 (93, .getfield 25, 3) rfl
theorem dX1_given_96 : decode cX1_given 96 = .ok (.ireturn, 1) := tb_d tk_X1_given_1 16 (96, .ireturn, 1) rfl
theorem dX1_given_97 : decode cX1_given 97 = .ok (.aload_n 0, 1) := tb_d tk_X1_given_1 17 (97, .aload_n 0, 1) rfl
theorem dX1_given_98 : decode cX1_given 98 = .ok (.bipush 10, 2) := tb_d tk_X1_given_1 18 (98, .bipush 10, 2) rfl
theorem dX1_given_100 : decode cX1_given 100 = .ok (.iload_n 3, 1) := tb_d tk_X1_given_1 19 (100, .iload_n 3, 1) rfl
theorem dX1_given_101 : decode cX1_given 101 = .ok (.invokestatic 41, 3) := tb_d tk_X1_given_1 20 (101, .invokestatic 41, 3) rfl
theorem dX1_given_104 : decode cX1_given 104 = .ok (.aload_n 0, 1) := tb_d tk_X1_given_1 21 (104, .aload_n 0, 1) rfl
theorem dX1_given_105 : decode cX1_given 105 = .ok (.aload_n 0, 1) := tb_d tk_X1_given_1 22 (105, .aload_n 0, 1) rfl
theorem dX1_given_106 : decode cX1_given 106 = .ok (.invokevirtual 38, 3) := tb_d tk_X1_given_1 23 (106, .invokevirtual 38, 3) rfl
theorem dX1_given_109 : decode cX1_given 109 = .ok (.iload_n 3, 1) := tb_d tk_X1_given_1 24 (109, .iload_n 3, 1) rfl
theorem dX1_given_110 : decode cX1_given 110 = .ok (.invokestatic 41, 3) := tb_d tk_X1_given_1 25 (110, .invokestatic 41, 3) rfl
theorem dX1_given_113 : decode cX1_given 113 = .ok (.iadd, 1) := tb_d tk_X1_given_1 26 (113, .iadd, 1) rfl
theorem dX1_given_114 : decode cX1_given 114 = .ok (.ireturn, 1) := tb_d tk_X1_given_1 27 (114, .ireturn, 1) rfl
theorem dX1_given_115 : decode cX1_given 115 = .ok (.aload_n 0, 1) := tb_d tk_X1_given_1 28 (115, .aload_n 0, 1) rfl
theorem dX1_given_116 : decode cX1_given 116 = .ok (.bipush 11, 2) := tb_d tk_X1_given_1 29 (116, .bipush 11, 2) rfl
theorem dX1_given_118 : decode cX1_given 118 = .ok (.iload_n 3, 1) := tb_d tk_X1_given_1 30 (118, .iload_n 3, 1) rfl
theorem dX1_given_119 : decode cX1_given 119 = .ok (.invokestatic 41, 3) := tb_d tk_X1_given_1 31 (119, .invokestatic 41, 3) rfl
theorem dX1_given_122 : decode cX1_given 122 = .ok (.ineg, 1) := tb_d tk_X1_given_1 32 (122, .ineg, 1) rfl
theorem dX1_given_123 : decode cX1_given 123 = .ok (.ireturn, 1) := tb_d tk_X1_given_1 33 (123, .ireturn, 1) rfl
theorem dX1_given_124 : decode cX1_given 124 = .ok (.aload_n 0, 1) := tb_d tk_X1_given_1 34 (124, .aload_n 0, 1) rfl
theorem dX1_given_125 : decode cX1_given 125 = .ok (.bipush 10, 2) := tb_d tk_X1_given_1 35 (125, .bipush 10, 2) rfl
theorem dX1_given_127 : decode cX1_given 127 = .ok (.iload_n 3, 1) := tb_d tk_X1_given_1 36 (127, .iload_n 3, 1) rfl
theorem dX1_given_128 : decode cX1_given 128 = .ok (.invokestatic 41, 3) := tb_d tk_X1_given_1 37 (128, .invokestatic 41, 3) rfl
theorem dX1_given_131 : decode cX1_given 131 = .ok (.bipush 100, 2) := tb_d tk_X1_given_1 38 (131, .bipush 100, 2) rfl
theorem dX1_given_133 : decode cX1_given 133 = .ok (.isub, 1) := tb_d tk_X1_given_1 39 (133, .isub, 1) rfl
def tb_X1_given_2 : List (Nat × Instr × Nat) := [(134, .ireturn, 1), (135, .aload_n 0, 1), (136, .bipush 13, 2), (138, .iload_n 3, 1), (139, .invokestatic 41, 3), (142, .iconst 2, 1), (143, .imul, 1), (144, .ireturn, 1), (145, .aload_n 0, 1), (146, .getfield 18, 3), (149, .ireturn, 1), (150, .aload_n 0, 1), (151, .bipush 20, 2), (153, .iload_n 3, 1), (154, .invokestatic 41, 3), (157, .aload_n 0, 1), (158, .getfield 28, 3), (161, .iadd, 1), (162, .ireturn, 1), (163, .aload_n 0, 1), (164, .bipush 21, 2), (166, .iload_n 3, 1), (167, .invokestatic 41, 3), (170, .sipush 1000, 3), (173, .isub, 1), (174, .ireturn, 1), (175, .aload_n 0, 1), (176, .bipush 20, 2), (178, .iload_n 3, 1), (179, .invokestatic 41, 3), (182, .aload_n 0, 1), (183, .aload_n 0, 1), (184, .invokevirtual 34, 3), (187, .iload_n 3, 1), (188, .invokestatic 41, 3), (191, .isub, 1), (192, .ireturn, 1), (193, .aload_n 0, 1), (194, .bipush 21, 2), (196, .iload_n 3, 1)]
set_option maxRecDepth 100000 in
theorem tk_X1_given_2 : (tb_X1_given_2.all fun q => decide (decode cX1_given q.1 = .ok q.2)) = true := by decide +kernel
theorem dX1_given_134 : decode cX1_given 134 = .ok (.ireturn, 1) := tb_d tk_X1_given_2 0 (134, .ireturn, 1) rfl
theorem dX1_given_135 : decode cX1_given 135 = .ok (.aload_n 0, 1) := tb_d tk_X1_given_2 1 (135, .aload_n 0, 1) rfl
theorem dX1_given_136 : decode cX1_given 136 = .ok (.bipush 13, 2) := tb_d tk_X1_given_2 2 (136, .bipush 13, 2) rfl
theorem dX1_given_138 : decode cX1_given 138 = .ok (.iload_n 3, 1) := tb_d tk_X1_given_2 3 (138, .iload_n 3, 1) rfl
theorem dX1_given_139 : decode cX1_given 139 = .ok (.invokestatic 41, 3) := tb_d tk_X1_given_2 4 (139, .invokestatic 41, 3) rfl
theorem dX1_given_142 : decode cX1_given 142 = .ok (.iconst 2, 1) := tb_d tk_X1_given_2 5 (142, .iconst 2, 1) rfl
theorem dX1_given_143 : decode cX1_given 143 = .ok (.imul, 1) := tb_d tk_X1_given_2 6 (143, .imul, 1) rfl
theorem dX1_given_144 : decode cX1_given 144 = .ok (.ireturn, 1) := tb_d tk_X1_given_2 7 (144, .ireturn, 1) rfl
theorem dX1_given_145 : decode cX1_given 145 = .ok (.aload_n 0, 1) := tb_d tk_X1_given_2 8 (145, .aload_n 0, 1) rfl
theorem dX1_given_146 : decode cX1_given 146 = .ok (.getfield 18, 3) := tb_d tk_X1_given_2 9 (146, .getfield 18, 3) rfl
theorem dX1_given_149 : decode cX1_given 149 = .ok (.ireturn, 1) := tb_d tk_X1_given_2 10 (149, .ireturn, 1) rfl
theorem dX1_given_150 : decode cX1_given 150 = .ok (.aload_n 0, 1) := tb_d tk_X1_given_2 11 (150, .aload_n 0, 1) rfl
theorem dX1_given_151 : decode cX1_given 151 = .ok (.bipush 20, 2) := tb_d tk_X1_given_2 12 (151, .bipush 20, 2) rfl
theorem dX1_given_153 : decode cX1_given 153 = .ok (.iload_n 3, 1) := tb_d tk_X1_given_2 13 (153, .iload_n 3, 1) rfl
theorem dX1_given_154 : decode cX1_given 154 = .ok (.invokestatic 41, 3) := tb_d tk_X1_given_2 14 (154, .invokestatic 41, 3) rfl
theorem dX1_given_157 : decode cX1_given 157 = .ok (.aload_n 0, 1) := tb_d tk_X1_given_2 15 (157, .aload_n 0, 1) rfl
theorem dX1_given_158 : decode cX1_given 158 = .ok (.getfield 28, 3) := tb_d tk_X1_given_2 16 (158, .getfield 28, 3) rfl
theorem dX1_given_161 : decode cX1_given 161 = .ok (.iadd, 1) := tb_d tk_X1_given_2 17 (161, .iadd, 1) rfl
theorem dX1_given_162 : decode cX1_given 162 = .ok (.ireturn, 1) := tb_d tk_X1_given_2 18 (162, .ireturn, 1) rfl
theorem dX1_given_163 : decode cX1_given 163 = .ok (.aload_n 0, 1) := tb_d tk_X1_given_2 19 (163, .aload_n 0, 1) rfl
theorem dX1_given_164 : decode cX1_given 164 = .ok (.bipush 21, 2) := tb_d tk_X1_given_2 20 (164, .bipush 21, 2) rfl
theorem dX1_given_166 : decode cX1_given 166 = .ok (.iload_n 3, 1) := tb_d tk_X1_given_2 21 (166, .iload_n 3, 1) rfl
theorem dX1_given_167 : decode cX1_given 167 = .ok (.invokestatic 41, 3) := tb_d tk_X1_given_2 22 (167, .invokestatic 41, 3) rfl
theorem dX1_given_170 : decode cX1_given 170 = .ok (.sipush 1000, 3) := tb_d tk_X1_given_2 23 (170, .sipush 1000, 3) rfl
theorem dX1_given_173 : decode cX1_given 173 = .ok (.isub, 1) := tb_d tk_X1_given_2 24 (173, .isub, 1) rfl
theorem dX1_given_174 : decode cX1_given 174 = .ok (.ireturn, 1) := tb_d tk_X1_given_2 25 (174, .ireturn, 1) rfl
theorem dX1_given_175 : decode cX1_given 175 = .ok (.aload_n 0, 1) := tb_d tk_X1_given_2 26 (175, .aload_n 0, 1) rfl
theorem dX1_given_176 : decode cX1_given 176 = .ok (.bipush 20, 2) := tb_d tk_X1_given_2 27 (176, .bipush 20, 2) rfl
theorem dX1_given_178 : decode cX1_given 178 = .ok (.iload_n 3, 1) := tb_d tk_X1_given_2 28 (178, .iload_n 3, 1) rfl
theorem dX1_given_179 : decode cX1_given 179 = .ok (.invokestatic 41, 3) := tb_d tk_X1_given_2 29 (179, .invokestatic 41, 3) rfl
theorem dX1_given_182 : decode cX1_given 182 = .ok (.aload_n 0, 1) := tb_d tk_X1_given_2 30 (182, .aload_n 0, 1) rfl
theorem dX1_given_183 : decode cX1_given 183 = .ok (.aload_n 0, 1) := tb_d tk_X1_given_2 31 (183, .aload_n 0, 1) rfl
theorem dX1_given_184 : decode cX1_given 184 = .ok (.invokevirtual 34, 3) := tb_d tk_X1_given_2 32 (184, .invokevirtual 34, 3) rfl
theorem dX1_given_187 : decode cX1_given 187 = .ok (.iload_n 3, 1) := tb_d tk_X1_given_2 33 (187, .iload_n 3, 1) rfl
theorem dX1_given_188 : decode cX1_given 188 = .ok (.invokestatic 41, 3) := tb_d tk_X1_given_2 34 (188, .invokestatic 41, 3) rfl
theorem dX1_given_191 : decode cX1_given 191 = .ok (.isub, 1) := tb_d tk_X1_given_2 35 (191, .isub, 1) rfl
theorem dX1_given_192 : decode cX1_given 192 = .ok (.ireturn, 1) := tb_d tk_X1_given_2 36 (192, .ireturn, 1) rfl
theorem dX1_given_193 : decode cX1_given 193 = .ok (.aload_n 0, 1) := tb_d tk_X1_given_2 37 (193, .aload_n 0, 1) rfl
theorem dX1_given_194 : decode cX1_given 194 = .ok (.bipush 21, 2) := tb_d tk_X1_given_2 38 (194, .bipush 21, 2) rfl
theorem dX1_given_196 : decode cX1_given 196 = .ok (.iload_n 3, 1) := tb_d tk_X1_given_2 39 (196, .iload_n 3, 1) rfl
def tb_X1_given_3 : List (Nat × Instr × Nat) := [(197, .invokestatic 41, 3), (200, .iconst 2, 1), (201, .imul, 1), (202, .ireturn, 1), (203, .iconst 0, 1), (204, .ireturn, 1)]
set_option maxRecDepth 100000 in
theorem tk_X1_given_3 : (tb_X1_given_3.all fun q => decide (decode cX1_given q.1 = .ok q.2)) = true := by decide +kernel
theorem dX1_given_197 : decode cX1_given 197 = .ok (.invokestatic 41, 3) := tb_d tk_X1_given_3 0 (197, .invokestatic 41, 3) rfl
theorem dX1_given_200 : decode cX1_given 200 = .ok (.iconst 2, 1) := tb_d tk_X1_given_3 1 (200, .iconst 2, 1) rfl
theorem dX1_given_201 : decode cX1_given 201 = .ok (.imul, 1) := tb_d tk_X1_given_3 2 (201, .imul, 1) rfl
theorem dX1_given_202 : decode cX1_given 202 = .ok (.ireturn, 1) := tb_d tk_X1_given_3 3 (202, .ireturn, 1) rfl
theorem dX1_given_203 : decode cX1_given 203 = .ok (.iconst 0, 1) := tb_d tk_X1_given_3 4 (203, .iconst 0, 1) rfl
theorem dX1_given_204 : decode cX1_given 204 = .ok (.ireturn, 1) := tb_d tk_X1_given_3 5 (204, .ireturn, 1) rfl
theorem ggX2_init_X4_init : GoodIn wsX2_init wsX4_init := fun w h => ⟨List.mem_cons_of_mem _ (List.mem_append_right _ (List.mem_append_right _ (List.mem_append_right _ (List.mem_append_left _ h)))), good_of_word (gdX4_init w h)⟩
set_option maxRecDepth 20000 in
theorem gX2_init_X4_init_n23 : GoodIn wsX2_init (wsX4_init) := ggX2_init_X4_init
def tb_X2_init_1 : List (Nat × Instr × Nat) := [(0, .aload_n 0, 1), (1, .invokespecial 3, 3), (4, .aload_n 0, 1), (5, .bipush 18, 2), (7, .newarray .int, 2), (9, .putfield 9, 3), (12, .aload_n 0, 1), (13, .iconst 4, 1), (14, .newarray .int, 2), (16, .putfield 15, 3), (19, .aload_n 0, 1), (20, .iconst 4, 1), (21, .newarray .int, 2), (23, .putfield 18, 3), (26, .aload_n 0, 1), (27, .new 21, 3), (30, .dup, 1), (31, .invokespecial 23, 3), (34, .putfield 24, 3), (37, .return_, 1)]
set_option maxRecDepth 100000 in
theorem tk_X2_init_1 : (tb_X2_init_1.all fun q => decide (decode cX2_init q.1 = .ok q.2)) = true := by decide +kernel
theorem dX2_init_0 : decode cX2_init 0 = .ok (.aload_n 0, 1) := tb_d tk_X2_init_1 0 (0, .aload_n 0, 1) rfl
theorem dX2_init_1 : decode cX2_init 1 = .ok (.invokespecial 3, 3) := tb_d tk_X2_init_1 1 (1, .invokespecial 3, 3) rfl
theorem dX2_init_4 : decode cX2_init 4 = .ok (.aload_n 0, 1) := tb_d tk_X2_init_1 2 (4, .aload_n 0, 1) rfl
theorem dX2_init_5 : decode cX2_init 5 = .ok (.bipush 18, 2) := tb_d tk_X2_init_1 3 (5, .bipush 18, 2) rfl
theorem dX2_init_7 : decode cX2_init 7 = .ok (.newarray .int, 2) := tb_d tk_X2_init_1 4 (7, .newarray .int, 2) rfl
theorem dX2_init_9 : decode cX2_init 9 = .ok (.putfield 9, 3) := tb_d tk_X2_init_1 5 (9, .putfield 9, 3) rfl
theorem dX2_init_12 : decode cX2_init 12 = .ok (.aload_n 0, 1) := tb_d tk_X2_init_1 6 (12, .aload_n 0, 1) rfl
theorem dX2_init_13 : decode cX2_init 13 = .ok (.iconst 4, 1) := tb_d tk_X2_init_1 7 (13, .iconst 4, 1) rfl
theorem dX2_init_14 : decode cX2_init 14 = .ok (.newarray .int, 2) := tb_d tk_X2_init_1 8 (14, .newarray .int, 2) rfl
theorem dX2_init_16 : decode cX2_init 16 = .ok (.putfield 15, 3) := tb_d tk_X2_init_1 9 (16, .putfield 15, 3) rfl
theorem dX2_init_19 : decode cX2_init 19 = .ok (.aload_n 0, 1) := tb_d tk_X2_init_1 10 (19, .aload_n 0, 1) rfl
theorem dX2_init_20 : decode cX2_init 20 = .ok (.iconst 4, 1) := tb_d tk_X2_init_1 11 (20, .iconst 4, 1) rfl
theorem dX2_init_21 : decode cX2_init 21 = .ok (.newarray .int, 2) := tb_d tk_X2_init_1 12 (21, .newarray .int, 2) rfl
theorem dX2_init_23 : decode cX2_init 23 = .ok (.putfield 18, 3) := tb_d tk_X2_init_1 13 (23, .putfield 18, 3) rfl
theorem dX2_init_26 : decode cX2_init 26 = .ok (.aload_n 0, 1) := tb_d tk_X2_init_1 14 (26, .aload_n 0, 1) rfl
theorem dX2_init_27 : decode cX2_init 27 = .ok (.new 21, 3) := tb_d tk_X2_init_1 15 (27, .new 21, 3) rfl
theorem dX2_init_30 : decode cX2_init 30 = .ok (.dup, 1) := tb_d tk_X2_init_1 16 (30, .dup, 1) rfl
theorem dX2_init_31 : decode cX2_init 31 = .ok (.invokespecial 23, 3) := tb_d tk_X2_init_1 17 (31, .invokespecial 23, 3) rfl
theorem dX2_init_34 : decode cX2_init 34 = .ok (.putfield 24, 3) := tb_d tk_X2_init_1 18 (34, .putfield 24, 3) rfl
theorem dX2_init_37 : decode cX2_init 37 = .ok (.return_, 1) := tb_d tk_X2_init_1 19 (37, .return_, 1) rfl
theorem ggX2_become_X4_become : GoodIn wsX2_become wsX4_become := fun w h => ⟨List.mem_cons_of_mem _ (List.mem_append_right _ (List.mem_append_right _ (List.mem_append_right _ (List.mem_append_left _ h)))), good_of_word (gdX4_become w h)⟩
set_option maxRecDepth 20000 in
theorem gX2_become_X4_become : GoodIn wsX2_become (wsV RX2 34 RX4 yX4_become wsX4_become) := goodIn_app (goodIn_of _ (by decide +kernel)) ggX2_become_X4_become
def tb_X2_become_1 : List (Nat × Instr × Nat) := [(0, .aload_n 1, 1), (1, .getfield 9, 3), (4, .iconst 0, 1), (5, .aload_n 0, 1), (6, .getfield 9, 3), (9, .iconst 0, 1), (10, .bipush 18, 2), (12, .invokestatic 28, 3), (15, .aload_n 1, 1), (16, .getfield 15, 3), (19, .iconst 0, 1), (20, .aload_n 0, 1), (21, .getfield 15, 3), (24, .iconst 0, 1), (25, .iconst 4, 1), (26, .invokestatic 28, 3), (29, .aload_n 1, 1), (30, .getfield 18, 3), (33, .iconst 0, 1), (34, .aload_n 0, 1), (35, .getfield 18, 3), (38, .iconst 0, 1), (39, .iconst 4, 1), (40, .invokestatic 28, 3), (43, .aload_n 0, 1), (44, .getfield 24, 3), (47, .aload_n 1, 1), (48, .getfield 24, 3), (51, .invokevirtual 34, 3), (54, .aload_n 0, 1), (55, .aload_n 1, 1), (56, .getfield 38, 3), (59, .putfield 38, 3), (62, .aload_n 0, 1), (63, .aload_n 1, 1), (64, .getfield 42, 3), (67, .putfield 42, 3), (70, .aload_n 0, 1), (71, .aload_n 1, 1), (72, .getfield 45, 3)]
set_option maxRecDepth 100000 in
theorem tk_X2_become_1 : (tb_X2_become_1.all fun q => decide (decode cX2_become q.1 = .ok q.2)) = true := by decide +kernel
theorem dX2_become_0 : decode cX2_become 0 = .ok (.aload_n 1, 1) := tb_d tk_X2_become_1 0 (0, .aload_n 1, 1) rfl
theorem dX2_become_1 : decode cX2_become 1 = .ok (.getfield 9, 3) := tb_d tk_X2_become_1 1 (1, .getfield 9, 3) rfl
theorem dX2_become_4 : decode cX2_become 4 = .ok (.iconst 0, 1) := tb_d tk_X2_become_1 2 (4, .iconst 0, 1) rfl
theorem dX2_become_5 : decode cX2_become 5 = .ok (.aload_n 0, 1) := tb_d tk_X2_become_1 3 (5, .aload_n 0, 1) rfl
theorem dX2_become_6 : decode cX2_become 6 = .ok (.getfield 9, 3) := tb_d tk_X2_become_1 4 (6, .getfield 9, 3) rfl
theorem dX2_become_9 : decode cX2_become 9 = .ok (.iconst 0, 1) := tb_d tk_X2_become_1 5 (9, .iconst 0, 1) rfl
theorem dX2_become_10 : decode cX2_become 10 = .ok (.bipush 18, 2) := tb_d tk_X2_become_1 6 (10, .bipush 18, 2) rfl
theorem dX2_become_12 : decode cX2_become 12 = .ok (.invokestatic 28, 3) := tb_d tk_X2_become_1 7 (12, .invokestatic 28, 3) rfl
theorem dX2_become_15 : decode cX2_become 15 = .ok (.aload_n 1, 1) := tb_d tk_X2_become_1 8 (15, .aload_n 1, 1) rfl
theorem dX2_become_16 : decode cX2_become 16 = .ok (.getfield 15, 3) := tb_d tk_X2_become_1 9 (16, .getfield 15, 3) rfl
theorem dX2_become_19 : decode cX2_become 19 = .ok (.iconst 0, 1) := tb_d tk_X2_become_1 10 (19, .iconst 0, 1) rfl
theorem dX2_become_20 : decode cX2_become 20 = .ok (.aload_n 0, 1) := tb_d tk_X2_become_1 11 (20, .aload_n 0, 1) rfl
theorem dX2_become_21 : decode cX2_become 21 = .ok (.getfield 15, 3) := tb_d tk_X2_become_1 12 (21, .getfield 15, 3) rfl
theorem dX2_become_24 : decode cX2_become 24 = .ok (.iconst 0, 1) := tb_d tk_X2_become_1 13 (24, .iconst 0, 1) rfl
theorem dX2_become_25 : decode cX2_become 25 = .ok (.iconst 4, 1) := tb_d tk_X2_become_1 14 (25, .iconst 4, 1) rfl
theorem dX2_become_26 : decode cX2_become 26 = .ok (.invokestatic 28, 3) := tb_d tk_X2_become_1 15 (26, .invokestatic 28, 3) rfl
theorem dX2_become_29 : decode cX2_become 29 = .ok (.aload_n 1, 1) := tb_d tk_X2_become_1 16 (29, .aload_n 1, 1) rfl
theorem dX2_become_30 : decode cX2_become 30 = .ok (.getfield 18, 3) := tb_d tk_X2_become_1 17 (30, .getfield 18, 3) rfl
theorem dX2_become_33 : decode cX2_become 33 = .ok (.iconst 0, 1) := tb_d tk_X2_become_1 18 (33, .iconst 0, 1) rfl
theorem dX2_become_34 : decode cX2_become 34 = .ok (.aload_n 0, 1) := tb_d tk_X2_become_1 19 (34, .aload_n 0, 1) rfl
theorem dX2_become_35 : decode cX2_become 35 = .ok (.getfield 18, 3) := tb_d tk_X2_become_1 20 (35, .getfield 18, 3) rfl
theorem dX2_become_38 : decode cX2_become 38 = .ok (.iconst 0, 1) := tb_d tk_X2_become_1 21 (38, .iconst 0, 1) rfl
theorem dX2_become_39 : decode cX2_become 39 = .ok (.iconst 4, 1) := tb_d tk_X2_become_1 22 (39, .iconst 4, 1) rfl
theorem dX2_become_40 : decode cX2_become 40 = .ok (.invokestatic 28, 3) := tb_d tk_X2_become_1 23 (40, .invokestatic 28, 3) rfl
theorem dX2_become_43 : decode cX2_become 43 = .ok (.aload_n 0, 1) := tb_d tk_X2_become_1 24 (43, .aload_n 0, 1) rfl
theorem dX2_become_44 : decode cX2_become 44 = .ok (.getfield 24, 3) := tb_d tk_X2_become_1 25 (44, .getfield 24, 3) rfl
theorem dX2_become_47 : decode cX2_become 47 = .ok (.aload_n 1, 1) := tb_d tk_X2_become_1 26 (47, .aload_n 1, 1) rfl
theorem dX2_become_48 : decode cX2_become 48 = .ok (.getfield 24, 3) := tb_d tk_X2_become_1 27 (48, .getfield 24, 3) rfl
theorem dX2_become_51 : decode cX2_become 51 = .ok (.invokevirtual 34, 3) := tb_d tk_X2_become_1 28 (51, .invokevirtual 34, 3) rfl
theorem dX2_become_54 : decode cX2_become 54 = .ok (.aload_n 0, 1) := tb_d tk_X2_become_1 29 (54, .aload_n 0, 1) rfl
theorem dX2_become_55 : decode cX2_become 55 = .ok (.aload_n 1, 1) := tb_d tk_X2_become_1 30 (55, .aload_n 1, 1) rfl
theorem dX2_become_56 : decode cX2_become 56 = .ok (.getfield 38, 3) := tb_d tk_X2_become_1 31 (56, .getfield 38, 3) rfl
theorem dX2_become_59 : decode cX2_become 59 = .ok (.putfield 38, 3) := tb_d tk_X2_become_1 32 (59, .putfield 38, 3) rfl
theorem dX2_become_62 : decode cX2_become 62 = .ok (.aload_n 0, 1) := tb_d tk_X2_become_1 33 (62, .aload_n 0, 1) rfl
theorem dX2_become_63 : decode cX2_become 63 = .ok (.aload_n 1, 1) := tb_d tk_X2_become_1 34 (63, .aload_n 1, 1) rfl
theorem dX2_become_64 : decode cX2_become 64 = .ok (.getfield 42, 3) := tb_d tk_X2_become_1 35 (64, .getfield 42, 3) rfl
theorem dX2_become_67 : decode cX2_become 67 = .ok (.putfield 42, 3) := tb_d tk_X2_become_1 36 (67, .putfield 42, 3) rfl
theorem dX2_become_70 : decode cX2_become 70 = .ok (.aload_n 0, 1) := tb_d tk_X2_become_1 37 (70, .aload_n 0, 1) rfl
theorem dX2_become_71 : decode cX2_become 71 = .ok (.aload_n 1, 1) := tb_d tk_X2_become_1 38 (71, .aload_n 1, 1) rfl
theorem dX2_become_72 : decode cX2_become 72 = .ok (.getfield 45, 3) := tb_d tk_X2_become_1 39 (72, .getfield 45, 3) rfl
def tb_X2_become_2 : List (Nat × Instr × Nat) := [(75, .putfield 45, 3), (78, .aload_n 0, 1), (79, .aload_n 1, 1), (80, .getfield 48, 3), (83, .putfield 48, 3), (86, .return_, 1)]
set_option maxRecDepth 100000 in
theorem tk_X2_become_2 : (tb_X2_become_2.all fun q => decide (decode cX2_become q.1 = .ok q.2)) = true := by decide +kernel
theorem dX2_become_75 : decode cX2_become 75 = .ok (.putfield 45, 3) := tb_d tk_X2_become_2 0 (75, .putfield 45, 3) rfl
theorem dX2_become_78 : decode cX2_become 78 = .ok (.aload_n 0, 1) := tb_d tk_X2_become_2 1 (78, .aload_n 0, 1) rfl
theorem dX2_become_79 : decode cX2_become 79 = .ok (.aload_n 1, 1) := tb_d tk_X2_become_2 2 (79, .aload_n 1, 1) rfl
theorem dX2_become_80 : decode cX2_become 80 = .ok (.getfield 48, 3) := tb_d tk_X2_become_2 3 (80, .getfield 48, 3) rfl
theorem dX2_become_83 : decode cX2_become 83 = .ok (.putfield 48, 3) := tb_d tk_X2_become_2 4 (83, .putfield 48, 3) rfl
theorem dX2_become_86 : decode cX2_become 86 = .ok (.return_, 1) := tb_d tk_X2_become_2 5 (86, .return_, 1) rfl
theorem ggX2_secretBy_X7_rest : GoodIn wsX2_secretBy wsX7_rest := fun w h => ⟨List.mem_cons_of_mem _ (List.mem_append_right _ (List.mem_append_right _ (List.mem_append_left _ h))), good_of_word (gdX7_rest w h)⟩
set_option maxRecDepth 20000 in
theorem gX2_secretBy_X7_rest_n51 : GoodIn wsX2_secretBy (wsX7_rest) := ggX2_secretBy_X7_rest
def tb_X2_secretBy_1 : List (Nat × Instr × Nat) := [(0, .iload 4, 2), (2, .bipush 7, 2), (4, .irem, 1), (5, .iload_n 3, 1), (6, .if_icmp .ne 7, 3), (9, .iconst 0, 1), (10, .goto 16, 3), (13, .iload_n 1, 1), (14, .iload_n 2, 1), (15, .iload 4, 2), (17, .imul, 1), (18, .iadd, 1), (19, .aload_n 0, 1), (20, .getfield 45, 3), (23, .invokestatic 51, 3), (26, .ireturn, 1)]
set_option maxRecDepth 100000 in
theorem tk_X2_secretBy_1 : (tb_X2_secretBy_1.all fun q => decide (decode cX2_secretBy q.1 = .ok q.2)) = true := by decide +kernel
theorem dX2_secretBy_0 : decode cX2_secretBy 0 = .ok (.iload 4, 2) := tb_d tk_X2_secretBy_1 0 (0, .iload 4, 2) rfl
theorem dX2_secretBy_2 : decode cX2_secretBy 2 = .ok (.bipush 7, 2) := tb_d tk_X2_secretBy_1 1 (2, .bipush 7, 2) rfl
theorem dX2_secretBy_4 : decode cX2_secretBy 4 = .ok (.irem, 1) := tb_d tk_X2_secretBy_1 2 (4, .irem, 1) rfl
theorem dX2_secretBy_5 : decode cX2_secretBy 5 = .ok (.iload_n 3, 1) := tb_d tk_X2_secretBy_1 3 (5, .iload_n 3, 1) rfl
theorem dX2_secretBy_6 : decode cX2_secretBy 6 = .ok (.if_icmp .ne 7, 3) := tb_d tk_X2_secretBy_1 4 (6, .if_icmp .ne 7, 3) rfl
theorem dX2_secretBy_9 : decode cX2_secretBy 9 = .ok (.iconst 0, 1) := tb_d tk_X2_secretBy_1 5 (9, .iconst 0, 1) rfl
theorem dX2_secretBy_10 : decode cX2_secretBy 10 = .ok (.goto 16, 3) := tb_d tk_X2_secretBy_1 6 (10, .goto 16, 3) rfl
theorem dX2_secretBy_13 : decode cX2_secretBy 13 = .ok (.iload_n 1, 1) := tb_d tk_X2_secretBy_1 7 (13, .iload_n 1, 1) rfl
theorem dX2_secretBy_14 : decode cX2_secretBy 14 = .ok (.iload_n 2, 1) := tb_d tk_X2_secretBy_1 8 (14, .iload_n 2, 1) rfl
theorem dX2_secretBy_15 : decode cX2_secretBy 15 = .ok (.iload 4, 2) := tb_d tk_X2_secretBy_1 9 (15, .iload 4, 2) rfl
theorem dX2_secretBy_17 : decode cX2_secretBy 17 = .ok (.imul, 1) := tb_d tk_X2_secretBy_1 10 (17, .imul, 1) rfl
theorem dX2_secretBy_18 : decode cX2_secretBy 18 = .ok (.iadd, 1) := tb_d tk_X2_secretBy_1 11 (18, .iadd, 1) rfl
theorem dX2_secretBy_19 : decode cX2_secretBy 19 = .ok (.aload_n 0, 1) := tb_d tk_X2_secretBy_1 12 (19, .aload_n 0, 1) rfl
theorem dX2_secretBy_20 : decode cX2_secretBy 20 = .ok (.getfield 45, 3) := tb_d tk_X2_secretBy_1 13 (20, .getfield 45, 3) rfl
theorem dX2_secretBy_23 : decode cX2_secretBy 23 = .ok (.invokestatic 51, 3) := tb_d tk_X2_secretBy_1 14 (23, .invokestatic 51, 3) rfl
theorem dX2_secretBy_26 : decode cX2_secretBy 26 = .ok (.ireturn, 1) := tb_d tk_X2_secretBy_1 15 (26, .ireturn, 1) rfl
theorem ggX2_secretIn_X2_secretBy : GoodIn wsX2_secretIn wsX2_secretBy := fun w h => ⟨List.mem_cons_of_mem _ (List.mem_append_right _ (List.mem_append_right _ (List.mem_append_right _ (List.mem_append_left _ h)))), good_of_word (gdX2_secretBy w h)⟩
set_option maxRecDepth 20000 in
theorem gX2_secretIn_X2_secretBy : GoodIn wsX2_secretIn (wsV RX2 61 RX2 yX2_secretBy wsX2_secretBy) := goodIn_app (goodIn_of _ (by decide +kernel)) ggX2_secretIn_X2_secretBy
def tb_X2_secretIn_1 : List (Nat × Instr × Nat) := [(0, .aload_n 0, 1), (1, .aload_n 0, 1), (2, .getfield 24, 3), (5, .getfield 55, 3), (8, .aload_n 0, 1), (9, .getfield 38, 3), (12, .aload_n 0, 1), (13, .getfield 42, 3), (16, .aload_n 0, 1), (17, .getfield 24, 3), (20, .getfield 58, 3), (23, .iload_n 1, 1), (24, .iadd, 1), (25, .invokevirtual 61, 3), (28, .ireturn, 1)]
set_option maxRecDepth 100000 in
theorem tk_X2_secretIn_1 : (tb_X2_secretIn_1.all fun q => decide (decode cX2_secretIn q.1 = .ok q.2)) = true := by decide +kernel
theorem dX2_secretIn_0 : decode cX2_secretIn 0 = .ok (.aload_n 0, 1) := tb_d tk_X2_secretIn_1 0 (0, .aload_n 0, 1) rfl
theorem dX2_secretIn_1 : decode cX2_secretIn 1 = .ok (.aload_n 0, 1) := tb_d tk_X2_secretIn_1 1 (1, .aload_n 0, 1) rfl
theorem dX2_secretIn_2 : decode cX2_secretIn 2 = .ok (.getfield 24, 3) := tb_d tk_X2_secretIn_1 2 (2, .getfield 24, 3) rfl
theorem dX2_secretIn_5 : decode cX2_secretIn 5 = .ok (.getfield 55, 3) := tb_d tk_X2_secretIn_1 3 (5, .getfield 55, 3) rfl
theorem dX2_secretIn_8 : decode cX2_secretIn 8 = .ok (.aload_n 0, 1) := tb_d tk_X2_secretIn_1 4 (8, .aload_n 0, 1) rfl
theorem dX2_secretIn_9 : decode cX2_secretIn 9 = .ok (.getfield 38, 3) := tb_d tk_X2_secretIn_1 5 (9, .getfield 38, 3) rfl
theorem dX2_secretIn_12 : decode cX2_secretIn 12 = .ok (.aload_n 0, 1) := tb_d tk_X2_secretIn_1 6 (12, .aload_n 0, 1) rfl
theorem dX2_secretIn_13 : decode cX2_secretIn 13 = .ok (.getfield 42, 3) := tb_d tk_X2_secretIn_1 7 (13, .getfield 42, 3) rfl
theorem dX2_secretIn_16 : decode cX2_secretIn 16 = .ok (.aload_n 0, 1) := tb_d tk_X2_secretIn_1 8 (16, .aload_n 0, 1) rfl
theorem dX2_secretIn_17 : decode cX2_secretIn 17 = .ok (.getfield 24, 3) := tb_d tk_X2_secretIn_1 9 (17, .getfield 24, 3) rfl
theorem dX2_secretIn_20 : decode cX2_secretIn 20 = .ok (.getfield 58, 3) := tb_d tk_X2_secretIn_1 10 (20, .getfield 58, 3) rfl
theorem dX2_secretIn_23 : decode cX2_secretIn 23 = .ok (.iload_n 1, 1) := tb_d tk_X2_secretIn_1 11 (23, .iload_n 1, 1) rfl
theorem dX2_secretIn_24 : decode cX2_secretIn 24 = .ok (.iadd, 1) := tb_d tk_X2_secretIn_1 12 (24, .iadd, 1) rfl
theorem dX2_secretIn_25 : decode cX2_secretIn 25 = .ok (.invokevirtual 61, 3) := tb_d tk_X2_secretIn_1 13 (25, .invokevirtual 61, 3) rfl
theorem dX2_secretIn_28 : decode cX2_secretIn 28 = .ok (.ireturn, 1) := tb_d tk_X2_secretIn_1 14 (28, .ireturn, 1) rfl
def tb_X2_distance_1 : List (Nat × Instr × Nat) := [(0, .iconst 0, 1), (1, .istore_n 3, 1), (2, .iconst 0, 1), (3, .istore 4, 2), (5, .iload 4, 2), (7, .iconst 3, 1), (8, .if_icmp .ge 37, 3), (11, .aload_n 0, 1), (12, .getfield 9, 3), (15, .iload_n 1, 1), (16, .iconst 3, 1), (17, .imul, 1), (18, .iload 4, 2), (20, .iadd, 1), (21, .iaload, 1), (22, .aload_n 0, 1), (23, .getfield 9, 3), (26, .iload_n 2, 1), (27, .iconst 3, 1), (28, .imul, 1), (29, .iload 4, 2), (31, .iadd, 1), (32, .iaload, 1), (33, .if_icmp .eq 6, 3), (36, .iinc 3 1, 3), (39, .iinc 4 1, 3), (42, .goto (-37), 3), (45, .iload_n 3, 1), (46, .ireturn, 1)]
set_option maxRecDepth 100000 in
theorem tk_X2_distance_1 : (tb_X2_distance_1.all fun q => decide (decode cX2_distance q.1 = .ok q.2)) = true := by decide +kernel
theorem dX2_distance_0 : decode cX2_distance 0 = .ok (.iconst 0, 1) := tb_d tk_X2_distance_1 0 (0, .iconst 0, 1) rfl
theorem dX2_distance_1 : decode cX2_distance 1 = .ok (.istore_n 3, 1) := tb_d tk_X2_distance_1 1 (1, .istore_n 3, 1) rfl
theorem dX2_distance_2 : decode cX2_distance 2 = .ok (.iconst 0, 1) := tb_d tk_X2_distance_1 2 (2, .iconst 0, 1) rfl
theorem dX2_distance_3 : decode cX2_distance 3 = .ok (.istore 4, 2) := tb_d tk_X2_distance_1 3 (3, .istore 4, 2) rfl
theorem dX2_distance_5 : decode cX2_distance 5 = .ok (.iload 4, 2) := tb_d tk_X2_distance_1 4 (5, .iload 4, 2) rfl
theorem dX2_distance_7 : decode cX2_distance 7 = .ok (.iconst 3, 1) := tb_d tk_X2_distance_1 5 (7, .iconst 3, 1) rfl
theorem dX2_distance_8 : decode cX2_distance 8 = .ok (.if_icmp .ge 37, 3) := tb_d tk_X2_distance_1 6 (8, .if_icmp .ge 37, 3) rfl
theorem dX2_distance_11 : decode cX2_distance 11 = .ok (.aload_n 0, 1) := tb_d tk_X2_distance_1 7 (11, .aload_n 0, 1) rfl
theorem dX2_distance_12 : decode cX2_distance 12 = .ok (.getfield 9, 3) := tb_d tk_X2_distance_1 8 (12, .getfield 9, 3) rfl
theorem dX2_distance_15 : decode cX2_distance 15 = .ok (.iload_n 1, 1) := tb_d tk_X2_distance_1 9 (15, .iload_n 1, 1) rfl
theorem dX2_distance_16 : decode cX2_distance 16 = .ok (.iconst 3, 1) := tb_d tk_X2_distance_1 10 (16, .iconst 3, 1) rfl
theorem dX2_distance_17 : decode cX2_distance 17 = .ok (.imul, 1) := tb_d tk_X2_distance_1 11 (17, .imul, 1) rfl
theorem dX2_distance_18 : decode cX2_distance 18 = .ok (.iload 4, 2) := tb_d tk_X2_distance_1 12 (18, .iload 4, 2) rfl
theorem dX2_distance_20 : decode cX2_distance 20 = .ok (.iadd, 1) := tb_d tk_X2_distance_1 13 (20, .iadd, 1) rfl
theorem dX2_distance_21 : decode cX2_distance 21 = .ok (.iaload, 1) := tb_d tk_X2_distance_1 14 (21, .iaload, 1) rfl
theorem dX2_distance_22 : decode cX2_distance 22 = .ok (.aload_n 0, 1) := tb_d tk_X2_distance_1 15 (22, .aload_n 0, 1) rfl
theorem dX2_distance_23 : decode cX2_distance 23 = .ok (.getfield 9, 3) := tb_d tk_X2_distance_1 16 (23, .getfield 9, 3) rfl
theorem dX2_distance_26 : decode cX2_distance 26 = .ok (.iload_n 2, 1) := tb_d tk_X2_distance_1 17 (26, .iload_n 2, 1) rfl
theorem dX2_distance_27 : decode cX2_distance 27 = .ok (.iconst 3, 1) := tb_d tk_X2_distance_1 18 (27, .iconst 3, 1) rfl
theorem dX2_distance_28 : decode cX2_distance 28 = .ok (.imul, 1) := tb_d tk_X2_distance_1 19 (28, .imul, 1) rfl
theorem dX2_distance_29 : decode cX2_distance 29 = .ok (.iload 4, 2) := tb_d tk_X2_distance_1 20 (29, .iload 4, 2) rfl
theorem dX2_distance_31 : decode cX2_distance 31 = .ok (.iadd, 1) := tb_d tk_X2_distance_1 21 (31, .iadd, 1) rfl
theorem dX2_distance_32 : decode cX2_distance 32 = .ok (.iaload, 1) := tb_d tk_X2_distance_1 22 (32, .iaload, 1) rfl
theorem dX2_distance_33 : decode cX2_distance 33 = .ok (.if_icmp .eq 6, 3) := tb_d tk_X2_distance_1 23 (33, .if_icmp .eq 6, 3) rfl
theorem dX2_distance_36 : decode cX2_distance 36 = .ok (.iinc 3 1, 3) := tb_d tk_X2_distance_1 24 (36, .iinc 3 1, 3) rfl
theorem dX2_distance_39 : decode cX2_distance 39 = .ok (.iinc 4 1, 3) := tb_d tk_X2_distance_1 25 (39, .iinc 4 1, 3) rfl
theorem dX2_distance_42 : decode cX2_distance 42 = .ok (.goto (-37), 3) := tb_d tk_X2_distance_1 26 (42, .goto (-37), 3) rfl
theorem dX2_distance_45 : decode cX2_distance 45 = .ok (.iload_n 3, 1) := tb_d tk_X2_distance_1 27 (45, .iload_n 3, 1) rfl
theorem dX2_distance_46 : decode cX2_distance 46 = .ok (.ireturn, 1) := tb_d tk_X2_distance_1 28 (46, .ireturn, 1) rfl
def tb_X2_lips_1 : List (Nat × Instr × Nat) := [(0, .iconst 0, 1), (1, .istore_n 3, 1), (2, .iconst 0, 1), (3, .istore 4, 2), (5, .iload 4, 2), (7, .iconst 3, 1), (8, .if_icmp .ge 41, 3), (11, .aload_n 0, 1), (12, .getfield 9, 3), (15, .iload_n 1, 1), (16, .iconst 3, 1), (17, .imul, 1), (18, .iload 4, 2), (20, .iadd, 1), (21, .iaload, 1), (22, .iconst 5, 1), (23, .irem, 1), (24, .aload_n 0, 1), (25, .getfield 9, 3), (28, .iload_n 2, 1), (29, .iconst 3, 1), (30, .imul, 1), (31, .iload 4, 2), (33, .iadd, 1), (34, .iaload, 1), (35, .iconst 5, 1), (36, .irem, 1), (37, .if_icmp .ne 6, 3), (40, .iinc 3 1, 3), (43, .iinc 4 1, 3), (46, .goto (-41), 3), (49, .iload_n 3, 1), (50, .ireturn, 1)]
set_option maxRecDepth 100000 in
theorem tk_X2_lips_1 : (tb_X2_lips_1.all fun q => decide (decode cX2_lips q.1 = .ok q.2)) = true := by decide +kernel
theorem dX2_lips_0 : decode cX2_lips 0 = .ok (.iconst 0, 1) := tb_d tk_X2_lips_1 0 (0, .iconst 0, 1) rfl
theorem dX2_lips_1 : decode cX2_lips 1 = .ok (.istore_n 3, 1) := tb_d tk_X2_lips_1 1 (1, .istore_n 3, 1) rfl
theorem dX2_lips_2 : decode cX2_lips 2 = .ok (.iconst 0, 1) := tb_d tk_X2_lips_1 2 (2, .iconst 0, 1) rfl
theorem dX2_lips_3 : decode cX2_lips 3 = .ok (.istore 4, 2) := tb_d tk_X2_lips_1 3 (3, .istore 4, 2) rfl
theorem dX2_lips_5 : decode cX2_lips 5 = .ok (.iload 4, 2) := tb_d tk_X2_lips_1 4 (5, .iload 4, 2) rfl
theorem dX2_lips_7 : decode cX2_lips 7 = .ok (.iconst 3, 1) := tb_d tk_X2_lips_1 5 (7, .iconst 3, 1) rfl
theorem dX2_lips_8 : decode cX2_lips 8 = .ok (.if_icmp .ge 41, 3) := tb_d tk_X2_lips_1 6 (8, .if_icmp .ge 41, 3) rfl
theorem dX2_lips_11 : decode cX2_lips 11 = .ok (.aload_n 0, 1) := tb_d tk_X2_lips_1 7 (11, .aload_n 0, 1) rfl
theorem dX2_lips_12 : decode cX2_lips 12 = .ok (.getfield 9, 3) := tb_d tk_X2_lips_1 8 (12, .getfield 9, 3) rfl
theorem dX2_lips_15 : decode cX2_lips 15 = .ok (.iload_n 1, 1) := tb_d tk_X2_lips_1 9 (15, .iload_n 1, 1) rfl
theorem dX2_lips_16 : decode cX2_lips 16 = .ok (.iconst 3, 1) := tb_d tk_X2_lips_1 10 (16, .iconst 3, 1) rfl
theorem dX2_lips_17 : decode cX2_lips 17 = .ok (.imul, 1) := tb_d tk_X2_lips_1 11 (17, .imul, 1) rfl
theorem dX2_lips_18 : decode cX2_lips 18 = .ok (.iload 4, 2) := tb_d tk_X2_lips_1 12 (18, .iload 4, 2) rfl
theorem dX2_lips_20 : decode cX2_lips 20 = .ok (.iadd, 1) := tb_d tk_X2_lips_1 13 (20, .iadd, 1) rfl
theorem dX2_lips_21 : decode cX2_lips 21 = .ok (.iaload, 1) := tb_d tk_X2_lips_1 14 (21, .iaload, 1) rfl
theorem dX2_lips_22 : decode cX2_lips 22 = .ok (.iconst 5, 1) := tb_d tk_X2_lips_1 15 (22, .iconst 5, 1) rfl
theorem dX2_lips_23 : decode cX2_lips 23 = .ok (.irem, 1) := tb_d tk_X2_lips_1 16 (23, .irem, 1) rfl
theorem dX2_lips_24 : decode cX2_lips 24 = .ok (.aload_n 0, 1) := tb_d tk_X2_lips_1 17 (24, .aload_n 0, 1) rfl
theorem dX2_lips_25 : decode cX2_lips 25 = .ok (.getfield 9, 3) := tb_d tk_X2_lips_1 18 (25, .getfield 9, 3) rfl
theorem dX2_lips_28 : decode cX2_lips 28 = .ok (.iload_n 2, 1) := tb_d tk_X2_lips_1 19 (28, .iload_n 2, 1) rfl
theorem dX2_lips_29 : decode cX2_lips 29 = .ok (.iconst 3, 1) := tb_d tk_X2_lips_1 20 (29, .iconst 3, 1) rfl
theorem dX2_lips_30 : decode cX2_lips 30 = .ok (.imul, 1) := tb_d tk_X2_lips_1 21 (30, .imul, 1) rfl
theorem dX2_lips_31 : decode cX2_lips 31 = .ok (.iload 4, 2) := tb_d tk_X2_lips_1 22 (31, .iload 4, 2) rfl
theorem dX2_lips_33 : decode cX2_lips 33 = .ok (.iadd, 1) := tb_d tk_X2_lips_1 23 (33, .iadd, 1) rfl
theorem dX2_lips_34 : decode cX2_lips 34 = .ok (.iaload, 1) := tb_d tk_X2_lips_1 24 (34, .iaload, 1) rfl
theorem dX2_lips_35 : decode cX2_lips 35 = .ok (.iconst 5, 1) := tb_d tk_X2_lips_1 25 (35, .iconst 5, 1) rfl
theorem dX2_lips_36 : decode cX2_lips 36 = .ok (.irem, 1) := tb_d tk_X2_lips_1 26 (36, .irem, 1) rfl
theorem dX2_lips_37 : decode cX2_lips 37 = .ok (.if_icmp .ne 6, 3) := tb_d tk_X2_lips_1 27 (37, .if_icmp .ne 6, 3) rfl
theorem dX2_lips_40 : decode cX2_lips 40 = .ok (.iinc 3 1, 3) := tb_d tk_X2_lips_1 28 (40, .iinc 3 1, 3) rfl
theorem dX2_lips_43 : decode cX2_lips 43 = .ok (.iinc 4 1, 3) := tb_d tk_X2_lips_1 29 (43, .iinc 4 1, 3) rfl
theorem dX2_lips_46 : decode cX2_lips 46 = .ok (.goto (-41), 3) := tb_d tk_X2_lips_1 30 (46, .goto (-41), 3) rfl
theorem dX2_lips_49 : decode cX2_lips 49 = .ok (.iload_n 3, 1) := tb_d tk_X2_lips_1 31 (49, .iload_n 3, 1) rfl
theorem dX2_lips_50 : decode cX2_lips 50 = .ok (.ireturn, 1) := tb_d tk_X2_lips_1 32 (50, .ireturn, 1) rfl
theorem ggX2_guardOn_X7_rest : GoodIn wsX2_guardOn wsX7_rest := fun w h => ⟨List.mem_cons_of_mem _ (List.mem_append_right _ (List.mem_append_right _ (List.mem_append_left _ h))), good_of_word (gdX7_rest w h)⟩
set_option maxRecDepth 20000 in
theorem gX2_guardOn_X7_rest_n51 : GoodIn wsX2_guardOn (wsX7_rest) := ggX2_guardOn_X7_rest
def tb_X2_guardOn_1 : List (Nat × Instr × Nat) := [(0, .iload_n 1, 1), (1, .iload_n 2, 1), (2, .iadd, 1), (3, .aload_n 0, 1), (4, .getfield 48, 3), (7, .invokestatic 51, 3), (10, .ireturn, 1)]
set_option maxRecDepth 100000 in
theorem tk_X2_guardOn_1 : (tb_X2_guardOn_1.all fun q => decide (decode cX2_guardOn q.1 = .ok q.2)) = true := by decide +kernel
theorem dX2_guardOn_0 : decode cX2_guardOn 0 = .ok (.iload_n 1, 1) := tb_d tk_X2_guardOn_1 0 (0, .iload_n 1, 1) rfl
theorem dX2_guardOn_1 : decode cX2_guardOn 1 = .ok (.iload_n 2, 1) := tb_d tk_X2_guardOn_1 1 (1, .iload_n 2, 1) rfl
theorem dX2_guardOn_2 : decode cX2_guardOn 2 = .ok (.iadd, 1) := tb_d tk_X2_guardOn_1 2 (2, .iadd, 1) rfl
theorem dX2_guardOn_3 : decode cX2_guardOn 3 = .ok (.aload_n 0, 1) := tb_d tk_X2_guardOn_1 3 (3, .aload_n 0, 1) rfl
theorem dX2_guardOn_4 : decode cX2_guardOn 4 = .ok (.getfield 48, 3) := tb_d tk_X2_guardOn_1 4 (4, .getfield 48, 3) rfl
theorem dX2_guardOn_7 : decode cX2_guardOn 7 = .ok (.invokestatic 51, 3) := tb_d tk_X2_guardOn_1 5 (7, .invokestatic 51, 3) rfl
theorem dX2_guardOn_10 : decode cX2_guardOn 10 = .ok (.ireturn, 1) := tb_d tk_X2_guardOn_1 6 (10, .ireturn, 1) rfl
def tb_X2_isThere_1 : List (Nat × Instr × Nat) := [(0, .aload_n 0, 1), (1, .getfield 24, 3), (4, .getfield 65, 3), (7, .iload_n 1, 1), (8, .ishr, 1), (9, .iconst 1, 1), (10, .iand, 1), (11, .iconst 1, 1), (12, .if_icmp .ne 7, 3), (15, .iconst 1, 1), (16, .goto 4, 3), (19, .iconst 0, 1), (20, .ireturn, 1)]
set_option maxRecDepth 100000 in
theorem tk_X2_isThere_1 : (tb_X2_isThere_1.all fun q => decide (decode cX2_isThere q.1 = .ok q.2)) = true := by decide +kernel
theorem dX2_isThere_0 : decode cX2_isThere 0 = .ok (.aload_n 0, 1) := tb_d tk_X2_isThere_1 0 (0, .aload_n 0, 1) rfl
theorem dX2_isThere_1 : decode cX2_isThere 1 = .ok (.getfield 24, 3) := tb_d tk_X2_isThere_1 1 (1, .getfield 24, 3) rfl
theorem dX2_isThere_4 : decode cX2_isThere 4 = .ok (.getfield 65, 3) := tb_d tk_X2_isThere_1 2 (4, .getfield 65, 3) rfl
theorem dX2_isThere_7 : decode cX2_isThere 7 = .ok (.iload_n 1, 1) := tb_d tk_X2_isThere_1 3 (7, .iload_n 1, 1) rfl
theorem dX2_isThere_8 : decode cX2_isThere 8 = .ok (.ishr, 1) := tb_d tk_X2_isThere_1 4 (8, .ishr, 1) rfl
theorem dX2_isThere_9 : decode cX2_isThere 9 = .ok (.iconst 1, 1) := tb_d tk_X2_isThere_1 5 (9, .iconst 1, 1) rfl
theorem dX2_isThere_10 : decode cX2_isThere 10 = .ok (.iand, 1) := tb_d tk_X2_isThere_1 6 (10, .iand, 1) rfl
theorem dX2_isThere_11 : decode cX2_isThere 11 = .ok (.iconst 1, 1) := tb_d tk_X2_isThere_1 7 (11, .iconst 1, 1) rfl
theorem dX2_isThere_12 : decode cX2_isThere 12 = .ok (.if_icmp .ne 7, 3) := tb_d tk_X2_isThere_1 8 (12, .if_icmp .ne 7, 3) rfl
theorem dX2_isThere_15 : decode cX2_isThere 15 = .ok (.iconst 1, 1) := tb_d tk_X2_isThere_1 9 (15, .iconst 1, 1) rfl
theorem dX2_isThere_16 : decode cX2_isThere 16 = .ok (.goto 4, 3) := tb_d tk_X2_isThere_1 10 (16, .goto 4, 3) rfl
theorem dX2_isThere_19 : decode cX2_isThere 19 = .ok (.iconst 0, 1) := tb_d tk_X2_isThere_1 11 (19, .iconst 0, 1) rfl
theorem dX2_isThere_20 : decode cX2_isThere 20 = .ok (.ireturn, 1) := tb_d tk_X2_isThere_1 12 (20, .ireturn, 1) rfl
theorem ggX2_wouldTake_X2_distance : GoodIn wsX2_wouldTake wsX2_distance := fun w h => ⟨List.mem_cons_of_mem _ (List.mem_append_right _ (List.mem_append_right _ (List.mem_append_left _ h))), good_of_word (gdX2_distance w h)⟩
set_option maxRecDepth 20000 in
theorem gX2_wouldTake_X2_distance : GoodIn wsX2_wouldTake (wsV RX2 68 RX2 yX2_distance wsX2_distance) := goodIn_app (goodIn_of _ (by decide +kernel)) ggX2_wouldTake_X2_distance
theorem ggX2_wouldTake_X2_lips : GoodIn wsX2_wouldTake wsX2_lips := fun w h => ⟨List.mem_cons_of_mem _ (List.mem_append_right _ (List.mem_append_right _ (List.mem_append_right _ (List.mem_append_left _ h)))), good_of_word (gdX2_lips w h)⟩
set_option maxRecDepth 20000 in
theorem gX2_wouldTake_X2_lips : GoodIn wsX2_wouldTake (wsV RX2 71 RX2 yX2_lips wsX2_lips) := goodIn_app (goodIn_of _ (by decide +kernel)) ggX2_wouldTake_X2_lips
def tb_X2_wouldTake_1 : List (Nat × Instr × Nat) := [(0, .iload_n 1, 1), (1, .tableswitch 120 1 5 #[35, 50, 66, 88, 104], 35), (36, .aload_n 0, 1), (37, .iload_n 2, 1), (38, .iload_n 3, 1), (39, .invokevirtual 68, 3), (42, .ifCond .ne 7, 3), (45, .iconst 1, 1), (46, .goto 4, 3), (49, .iconst 0, 1), (50, .ireturn, 1), (51, .aload_n 0, 1), (52, .iload_n 2, 1), (53, .iload_n 3, 1), (54, .invokevirtual 68, 3), (57, .iconst 1, 1), (58, .if_icmp .gt 7, 3), (61, .iconst 1, 1), (62, .goto 4, 3), (65, .iconst 0, 1), (66, .ireturn, 1), (67, .iload 4, 2), (69, .iconst 2, 1), (70, .irem, 1), (71, .ifCond .ne 16, 3), (74, .aload_n 0, 1), (75, .iload_n 2, 1), (76, .iload_n 3, 1), (77, .invokevirtual 68, 3), (80, .ifCond .ne 7, 3), (83, .iconst 1, 1), (84, .goto 4, 3), (87, .iconst 0, 1), (88, .ireturn, 1), (89, .aload_n 0, 1), (90, .iload_n 2, 1), (91, .iload_n 3, 1), (92, .invokevirtual 71, 3), (95, .iconst 3, 1), (96, .if_icmp .ne 7, 3)]
set_option maxRecDepth 100000 in
theorem tk_X2_wouldTake_1 : (tb_X2_wouldTake_1.all fun q => decide (decode cX2_wouldTake q.1 = .ok q.2)) = true := by decide +kernel
theorem dX2_wouldTake_0 : decode cX2_wouldTake 0 = .ok (.iload_n 1, 1) := tb_d tk_X2_wouldTake_1 0 (0, .iload_n 1, 1) rfl
theorem dX2_wouldTake_1 : decode cX2_wouldTake 1 = .ok (.tableswitch 120 1 5 #[35, 50, 66, 88, 104], 35) := tb_d tk_X2_wouldTake_1 1 (1, .tableswitch 120 1 5 #[35, 50, 66, 88, 104], 35) rfl
theorem dX2_wouldTake_36 : decode cX2_wouldTake 36 = .ok (.aload_n 0, 1) := tb_d tk_X2_wouldTake_1 2 (36, .aload_n 0, 1) rfl
theorem dX2_wouldTake_37 : decode cX2_wouldTake 37 = .ok (.iload_n 2, 1) := tb_d tk_X2_wouldTake_1 3 (37, .iload_n 2, 1) rfl
theorem dX2_wouldTake_38 : decode cX2_wouldTake 38 = .ok (.iload_n 3, 1) := tb_d tk_X2_wouldTake_1 4 (38, .iload_n 3, 1) rfl
theorem dX2_wouldTake_39 : decode cX2_wouldTake 39 = .ok (.invokevirtual 68, 3) := tb_d tk_X2_wouldTake_1 5 (39, .invokevirtual 68, 3) rfl
theorem dX2_wouldTake_42 : decode cX2_wouldTake 42 = .ok (.ifCond .ne 7, 3) := tb_d tk_X2_wouldTake_1 6 (42, .ifCond .ne 7, 3) rfl
theorem dX2_wouldTake_45 : decode cX2_wouldTake 45 = .ok (.iconst 1, 1) := tb_d tk_X2_wouldTake_1 7 (45, .iconst 1, 1) rfl
theorem dX2_wouldTake_46 : decode cX2_wouldTake 46 = .ok (.goto 4, 3) := tb_d tk_X2_wouldTake_1 8 (46, .goto 4, 3) rfl
theorem dX2_wouldTake_49 : decode cX2_wouldTake 49 = .ok (.iconst 0, 1) := tb_d tk_X2_wouldTake_1 9 (49, .iconst 0, 1) rfl
theorem dX2_wouldTake_50 : decode cX2_wouldTake 50 = .ok (.ireturn, 1) := tb_d tk_X2_wouldTake_1 10 (50, .ireturn, 1) rfl
theorem dX2_wouldTake_51 : decode cX2_wouldTake 51 = .ok (.aload_n 0, 1) := tb_d tk_X2_wouldTake_1 11 (51, .aload_n 0, 1) rfl
theorem dX2_wouldTake_52 : decode cX2_wouldTake 52 = .ok (.iload_n 2, 1) := tb_d tk_X2_wouldTake_1 12 (52, .iload_n 2, 1) rfl
theorem dX2_wouldTake_53 : decode cX2_wouldTake 53 = .ok (.iload_n 3, 1) := tb_d tk_X2_wouldTake_1 13 (53, .iload_n 3, 1) rfl
theorem dX2_wouldTake_54 : decode cX2_wouldTake 54 = .ok (.invokevirtual 68, 3) := tb_d tk_X2_wouldTake_1 14 (54, .invokevirtual 68, 3) rfl
theorem dX2_wouldTake_57 : decode cX2_wouldTake 57 = .ok (.iconst 1, 1) := tb_d tk_X2_wouldTake_1 15 (57, .iconst 1, 1) rfl
theorem dX2_wouldTake_58 : decode cX2_wouldTake 58 = .ok (.if_icmp .gt 7, 3) := tb_d tk_X2_wouldTake_1 16 (58, .if_icmp .gt 7, 3) rfl
theorem dX2_wouldTake_61 : decode cX2_wouldTake 61 = .ok (.iconst 1, 1) := tb_d tk_X2_wouldTake_1 17 (61, .iconst 1, 1) rfl
theorem dX2_wouldTake_62 : decode cX2_wouldTake 62 = .ok (.goto 4, 3) := tb_d tk_X2_wouldTake_1 18 (62, .goto 4, 3) rfl
theorem dX2_wouldTake_65 : decode cX2_wouldTake 65 = .ok (.iconst 0, 1) := tb_d tk_X2_wouldTake_1 19 (65, .iconst 0, 1) rfl
theorem dX2_wouldTake_66 : decode cX2_wouldTake 66 = .ok (.ireturn, 1) := tb_d tk_X2_wouldTake_1 20 (66, .ireturn, 1) rfl
theorem dX2_wouldTake_67 : decode cX2_wouldTake 67 = .ok (.iload 4, 2) := tb_d tk_X2_wouldTake_1 21 (67, .iload 4, 2) rfl
theorem dX2_wouldTake_69 : decode cX2_wouldTake 69 = .ok (.iconst 2, 1) := tb_d tk_X2_wouldTake_1 22 (69, .iconst 2, 1) rfl
theorem dX2_wouldTake_70 : decode cX2_wouldTake 70 = .ok (.irem, 1) := tb_d tk_X2_wouldTake_1 23 (70, .irem, 1) rfl
theorem dX2_wouldTake_71 : decode cX2_wouldTake 71 = .ok (.ifCond .ne 16, 3) := tb_d tk_X2_wouldTake_1 24 (71, .ifCond .ne 16, 3) rfl
theorem dX2_wouldTake_74 : decode cX2_wouldTake 74 = .ok (.aload_n 0, 1) := tb_d tk_X2_wouldTake_1 25 (74, .aload_n 0, 1) rfl
theorem dX2_wouldTake_75 : decode cX2_wouldTake 75 = .ok (.iload_n 2, 1) := tb_d tk_X2_wouldTake_1 26 (75, .iload_n 2, 1) rfl
theorem dX2_wouldTake_76 : decode cX2_wouldTake 76 = .ok (.iload_n 3, 1) := tb_d tk_X2_wouldTake_1 27 (76, .iload_n 3, 1) rfl
theorem dX2_wouldTake_77 : decode cX2_wouldTake 77 = .ok (.invokevirtual 68, 3) := tb_d tk_X2_wouldTake_1 28 (77, .invokevirtual 68, 3) rfl
theorem dX2_wouldTake_80 : decode cX2_wouldTake 80 = .ok (.ifCond .ne 7, 3) := tb_d tk_X2_wouldTake_1 29 (80, .ifCond .ne 7, 3) rfl
theorem dX2_wouldTake_83 : decode cX2_wouldTake 83 = .ok (.iconst 1, 1) := tb_d tk_X2_wouldTake_1 30 (83, .iconst 1, 1) rfl
theorem dX2_wouldTake_84 : decode cX2_wouldTake 84 = .ok (.goto 4, 3) := tb_d tk_X2_wouldTake_1 31 (84, .goto 4, 3) rfl
theorem dX2_wouldTake_87 : decode cX2_wouldTake 87 = .ok (.iconst 0, 1) := tb_d tk_X2_wouldTake_1 32 (87, .iconst 0, 1) rfl
theorem dX2_wouldTake_88 : decode cX2_wouldTake 88 = .ok (.ireturn, 1) := tb_d tk_X2_wouldTake_1 33 (88, .ireturn, 1) rfl
theorem dX2_wouldTake_89 : decode cX2_wouldTake 89 = .ok (.aload_n 0, 1) := tb_d tk_X2_wouldTake_1 34 (89, .aload_n 0, 1) rfl
theorem dX2_wouldTake_90 : decode cX2_wouldTake 90 = .ok (.iload_n 2, 1) := tb_d tk_X2_wouldTake_1 35 (90, .iload_n 2, 1) rfl
theorem dX2_wouldTake_91 : decode cX2_wouldTake 91 = .ok (.iload_n 3, 1) := tb_d tk_X2_wouldTake_1 36 (91, .iload_n 3, 1) rfl
theorem dX2_wouldTake_92 : decode cX2_wouldTake 92 = .ok (.invokevirtual 71, 3) := tb_d tk_X2_wouldTake_1 37 (92, .invokevirtual 71, 3) rfl
theorem dX2_wouldTake_95 : decode cX2_wouldTake 95 = .ok (.iconst 3, 1) := tb_d tk_X2_wouldTake_1 38 (95, .iconst 3, 1) rfl
theorem dX2_wouldTake_96 : decode cX2_wouldTake 96 = .ok (.if_icmp .ne 7, 3) := tb_d tk_X2_wouldTake_1 39 (96, .if_icmp .ne 7, 3) rfl
def tb_X2_wouldTake_2 : List (Nat × Instr × Nat) := [(99, .iconst 1, 1), (100, .goto 4, 3), (103, .iconst 0, 1), (104, .ireturn, 1), (105, .aload_n 0, 1), (106, .iload_n 2, 1), (107, .iload_n 3, 1), (108, .invokevirtual 71, 3), (111, .iconst 2, 1), (112, .if_icmp .lt 7, 3), (115, .iconst 1, 1), (116, .goto 4, 3), (119, .iconst 0, 1), (120, .ireturn, 1), (121, .iconst 0, 1), (122, .ireturn, 1)]
set_option maxRecDepth 100000 in
theorem tk_X2_wouldTake_2 : (tb_X2_wouldTake_2.all fun q => decide (decode cX2_wouldTake q.1 = .ok q.2)) = true := by decide +kernel
theorem dX2_wouldTake_99 : decode cX2_wouldTake 99 = .ok (.iconst 1, 1) := tb_d tk_X2_wouldTake_2 0 (99, .iconst 1, 1) rfl
theorem dX2_wouldTake_100 : decode cX2_wouldTake 100 = .ok (.goto 4, 3) := tb_d tk_X2_wouldTake_2 1 (100, .goto 4, 3) rfl
theorem dX2_wouldTake_103 : decode cX2_wouldTake 103 = .ok (.iconst 0, 1) := tb_d tk_X2_wouldTake_2 2 (103, .iconst 0, 1) rfl
theorem dX2_wouldTake_104 : decode cX2_wouldTake 104 = .ok (.ireturn, 1) := tb_d tk_X2_wouldTake_2 3 (104, .ireturn, 1) rfl
theorem dX2_wouldTake_105 : decode cX2_wouldTake 105 = .ok (.aload_n 0, 1) := tb_d tk_X2_wouldTake_2 4 (105, .aload_n 0, 1) rfl
theorem dX2_wouldTake_106 : decode cX2_wouldTake 106 = .ok (.iload_n 2, 1) := tb_d tk_X2_wouldTake_2 5 (106, .iload_n 2, 1) rfl
theorem dX2_wouldTake_107 : decode cX2_wouldTake 107 = .ok (.iload_n 3, 1) := tb_d tk_X2_wouldTake_2 6 (107, .iload_n 3, 1) rfl
theorem dX2_wouldTake_108 : decode cX2_wouldTake 108 = .ok (.invokevirtual 71, 3) := tb_d tk_X2_wouldTake_2 7 (108, .invokevirtual 71, 3) rfl
theorem dX2_wouldTake_111 : decode cX2_wouldTake 111 = .ok (.iconst 2, 1) := tb_d tk_X2_wouldTake_2 8 (111, .iconst 2, 1) rfl
theorem dX2_wouldTake_112 : decode cX2_wouldTake 112 = .ok (.if_icmp .lt 7, 3) := tb_d tk_X2_wouldTake_2 9 (112, .if_icmp .lt 7, 3) rfl
theorem dX2_wouldTake_115 : decode cX2_wouldTake 115 = .ok (.iconst 1, 1) := tb_d tk_X2_wouldTake_2 10 (115, .iconst 1, 1) rfl
theorem dX2_wouldTake_116 : decode cX2_wouldTake 116 = .ok (.goto 4, 3) := tb_d tk_X2_wouldTake_2 11 (116, .goto 4, 3) rfl
theorem dX2_wouldTake_119 : decode cX2_wouldTake 119 = .ok (.iconst 0, 1) := tb_d tk_X2_wouldTake_2 12 (119, .iconst 0, 1) rfl
theorem dX2_wouldTake_120 : decode cX2_wouldTake 120 = .ok (.ireturn, 1) := tb_d tk_X2_wouldTake_2 13 (120, .ireturn, 1) rfl
theorem dX2_wouldTake_121 : decode cX2_wouldTake 121 = .ok (.iconst 0, 1) := tb_d tk_X2_wouldTake_2 14 (121, .iconst 0, 1) rfl
theorem dX2_wouldTake_122 : decode cX2_wouldTake 122 = .ok (.ireturn, 1) := tb_d tk_X2_wouldTake_2 15 (122, .ireturn, 1) rfl
theorem ggX2_catchesIf_X2_guardOn : GoodIn wsX2_catchesIf wsX2_guardOn := fun w h => ⟨List.mem_cons_of_mem _ (List.mem_append_right _ (List.mem_append_right _ (List.mem_append_right _ (List.mem_append_left _ h)))), good_of_word (gdX2_guardOn w h)⟩
set_option maxRecDepth 20000 in
theorem gX2_catchesIf_X2_guardOn : GoodIn wsX2_catchesIf (wsV RX2 74 RX2 yX2_guardOn wsX2_guardOn) := goodIn_app (goodIn_of _ (by decide +kernel)) ggX2_catchesIf_X2_guardOn
theorem ggX2_catchesIf_X2_isThere : GoodIn wsX2_catchesIf wsX2_isThere := fun w h => ⟨List.mem_cons_of_mem _ (List.mem_append_right _ (List.mem_append_right _ (List.mem_append_right _ (List.mem_append_right _ (List.mem_append_left _ h))))), good_of_word (gdX2_isThere w h)⟩
set_option maxRecDepth 20000 in
theorem gX2_catchesIf_X2_isThere : GoodIn wsX2_catchesIf (wsV RX2 77 RX2 yX2_isThere wsX2_isThere) := goodIn_app (goodIn_of _ (by decide +kernel)) ggX2_catchesIf_X2_isThere
theorem ggX2_catchesIf_X2_wouldTake : GoodIn wsX2_catchesIf wsX2_wouldTake := fun w h => ⟨List.mem_cons_of_mem _ (List.mem_append_right _ (List.mem_append_right _ (List.mem_append_right _ (List.mem_append_right _ (List.mem_append_right _ (List.mem_append_left _ h)))))), good_of_word (gdX2_wouldTake w h)⟩
set_option maxRecDepth 20000 in
theorem gX2_catchesIf_X2_wouldTake : GoodIn wsX2_catchesIf (wsV RX2 81 RX2 yX2_wouldTake wsX2_wouldTake) := goodIn_app (goodIn_of _ (by decide +kernel)) ggX2_catchesIf_X2_wouldTake
def tb_X2_catchesIf_1 : List (Nat × Instr × Nat) := [(0, .aload_n 0, 1), (1, .iload 4, 2), (3, .iload_n 3, 1), (4, .invokevirtual 74, 3), (7, .istore 5, 2), (9, .aload_n 0, 1), (10, .iload 5, 2), (12, .invokevirtual 77, 3), (15, .ifCond .eq 25, 3), (18, .aload_n 0, 1), (19, .aload_n 0, 1), (20, .getfield 15, 3), (23, .iload 5, 2), (25, .iaload, 1), (26, .iload_n 2, 1), (27, .iload_n 1, 1), (28, .iload 4, 2), (30, .invokevirtual 81, 3), (33, .ifCond .eq 7, 3), (36, .iconst 1, 1), (37, .goto 4, 3), (40, .iconst 0, 1), (41, .ireturn, 1)]
set_option maxRecDepth 100000 in
theorem tk_X2_catchesIf_1 : (tb_X2_catchesIf_1.all fun q => decide (decode cX2_catchesIf q.1 = .ok q.2)) = true := by decide +kernel
theorem dX2_catchesIf_0 : decode cX2_catchesIf 0 = .ok (.aload_n 0, 1) := tb_d tk_X2_catchesIf_1 0 (0, .aload_n 0, 1) rfl
theorem dX2_catchesIf_1 : decode cX2_catchesIf 1 = .ok (.iload 4, 2) := tb_d tk_X2_catchesIf_1 1 (1, .iload 4, 2) rfl
theorem dX2_catchesIf_3 : decode cX2_catchesIf 3 = .ok (.iload_n 3, 1) := tb_d tk_X2_catchesIf_1 2 (3, .iload_n 3, 1) rfl
theorem dX2_catchesIf_4 : decode cX2_catchesIf 4 = .ok (.invokevirtual 74, 3) := tb_d tk_X2_catchesIf_1 3 (4, .invokevirtual 74, 3) rfl
theorem dX2_catchesIf_7 : decode cX2_catchesIf 7 = .ok (.istore 5, 2) := tb_d tk_X2_catchesIf_1 4 (7, .istore 5, 2) rfl
theorem dX2_catchesIf_9 : decode cX2_catchesIf 9 = .ok (.aload_n 0, 1) := tb_d tk_X2_catchesIf_1 5 (9, .aload_n 0, 1) rfl
theorem dX2_catchesIf_10 : decode cX2_catchesIf 10 = .ok (.iload 5, 2) := tb_d tk_X2_catchesIf_1 6 (10, .iload 5, 2) rfl
theorem dX2_catchesIf_12 : decode cX2_catchesIf 12 = .ok (.invokevirtual 77, 3) := tb_d tk_X2_catchesIf_1 7 (12, .invokevirtual 77, 3) rfl
theorem dX2_catchesIf_15 : decode cX2_catchesIf 15 = .ok (.ifCond .eq 25, 3) := tb_d tk_X2_catchesIf_1 8 (15, .ifCond .eq 25, 3) rfl
theorem dX2_catchesIf_18 : decode cX2_catchesIf 18 = .ok (.aload_n 0, 1) := tb_d tk_X2_catchesIf_1 9 (18, .aload_n 0, 1) rfl
theorem dX2_catchesIf_19 : decode cX2_catchesIf 19 = .ok (.aload_n 0, 1) := tb_d tk_X2_catchesIf_1 10 (19, .aload_n 0, 1) rfl
theorem dX2_catchesIf_20 : decode cX2_catchesIf 20 = .ok (.getfield 15, 3) := tb_d tk_X2_catchesIf_1 11 (20, .getfield 15, 3) rfl
theorem dX2_catchesIf_23 : decode cX2_catchesIf 23 = .ok (.iload 5, 2) := tb_d tk_X2_catchesIf_1 12 (23, .iload 5, 2) rfl
theorem dX2_catchesIf_25 : decode cX2_catchesIf 25 = .ok (.iaload, 1) := tb_d tk_X2_catchesIf_1 13 (25, .iaload, 1) rfl
theorem dX2_catchesIf_26 : decode cX2_catchesIf 26 = .ok (.iload_n 2, 1) := tb_d tk_X2_catchesIf_1 14 (26, .iload_n 2, 1) rfl
theorem dX2_catchesIf_27 : decode cX2_catchesIf 27 = .ok (.iload_n 1, 1) := tb_d tk_X2_catchesIf_1 15 (27, .iload_n 1, 1) rfl
theorem dX2_catchesIf_28 : decode cX2_catchesIf 28 = .ok (.iload 4, 2) := tb_d tk_X2_catchesIf_1 16 (28, .iload 4, 2) rfl
theorem dX2_catchesIf_30 : decode cX2_catchesIf 30 = .ok (.invokevirtual 81, 3) := tb_d tk_X2_catchesIf_1 17 (30, .invokevirtual 81, 3) rfl
theorem dX2_catchesIf_33 : decode cX2_catchesIf 33 = .ok (.ifCond .eq 7, 3) := tb_d tk_X2_catchesIf_1 18 (33, .ifCond .eq 7, 3) rfl
theorem dX2_catchesIf_36 : decode cX2_catchesIf 36 = .ok (.iconst 1, 1) := tb_d tk_X2_catchesIf_1 19 (36, .iconst 1, 1) rfl
theorem dX2_catchesIf_37 : decode cX2_catchesIf 37 = .ok (.goto 4, 3) := tb_d tk_X2_catchesIf_1 20 (37, .goto 4, 3) rfl
theorem dX2_catchesIf_40 : decode cX2_catchesIf 40 = .ok (.iconst 0, 1) := tb_d tk_X2_catchesIf_1 21 (40, .iconst 0, 1) rfl
theorem dX2_catchesIf_41 : decode cX2_catchesIf 41 = .ok (.ireturn, 1) := tb_d tk_X2_catchesIf_1 22 (41, .ireturn, 1) rfl
theorem ggX2_catches_X2_secretIn : GoodIn wsX2_catches wsX2_secretIn := fun w h => ⟨List.mem_cons_of_mem _ (List.mem_append_right _ (List.mem_append_right _ (List.mem_append_right _ (List.mem_append_left _ h)))), good_of_word (gdX2_secretIn w h)⟩
set_option maxRecDepth 20000 in
theorem gX2_catches_X2_secretIn : GoodIn wsX2_catches (wsV RX2 85 RX2 yX2_secretIn wsX2_secretIn) := goodIn_app (goodIn_of _ (by decide +kernel)) ggX2_catches_X2_secretIn
theorem ggX2_catches_X2_catchesIf : GoodIn wsX2_catches wsX2_catchesIf := fun w h => ⟨List.mem_cons_of_mem _ (List.mem_append_right _ (List.mem_append_right _ (List.mem_append_right _ (List.mem_append_right _ (List.mem_append_left _ h))))), good_of_word (gdX2_catchesIf w h)⟩
set_option maxRecDepth 20000 in
theorem gX2_catches_X2_catchesIf : GoodIn wsX2_catches (wsV RX2 89 RX2 yX2_catchesIf wsX2_catchesIf) := goodIn_app (goodIn_of _ (by decide +kernel)) ggX2_catches_X2_catchesIf
def tb_X2_catches_1 : List (Nat × Instr × Nat) := [(0, .aload_n 0, 1), (1, .aload_n 0, 1), (2, .iload_n 3, 1), (3, .invokevirtual 85, 3), (6, .iload_n 1, 1), (7, .iload_n 2, 1), (8, .aload_n 0, 1), (9, .getfield 24, 3), (12, .getfield 58, 3), (15, .iload_n 3, 1), (16, .iadd, 1), (17, .invokevirtual 89, 3), (20, .ireturn, 1)]
set_option maxRecDepth 100000 in
theorem tk_X2_catches_1 : (tb_X2_catches_1.all fun q => decide (decode cX2_catches q.1 = .ok q.2)) = true := by decide +kernel
theorem dX2_catches_0 : decode cX2_catches 0 = .ok (.aload_n 0, 1) := tb_d tk_X2_catches_1 0 (0, .aload_n 0, 1) rfl
theorem dX2_catches_1 : decode cX2_catches 1 = .ok (.aload_n 0, 1) := tb_d tk_X2_catches_1 1 (1, .aload_n 0, 1) rfl
theorem dX2_catches_2 : decode cX2_catches 2 = .ok (.iload_n 3, 1) := tb_d tk_X2_catches_1 2 (2, .iload_n 3, 1) rfl
theorem dX2_catches_3 : decode cX2_catches 3 = .ok (.invokevirtual 85, 3) := tb_d tk_X2_catches_1 3 (3, .invokevirtual 85, 3) rfl
theorem dX2_catches_6 : decode cX2_catches 6 = .ok (.iload_n 1, 1) := tb_d tk_X2_catches_1 4 (6, .iload_n 1, 1) rfl
theorem dX2_catches_7 : decode cX2_catches 7 = .ok (.iload_n 2, 1) := tb_d tk_X2_catches_1 5 (7, .iload_n 2, 1) rfl
theorem dX2_catches_8 : decode cX2_catches 8 = .ok (.aload_n 0, 1) := tb_d tk_X2_catches_1 6 (8, .aload_n 0, 1) rfl
theorem dX2_catches_9 : decode cX2_catches 9 = .ok (.getfield 24, 3) := tb_d tk_X2_catches_1 7 (9, .getfield 24, 3) rfl
theorem dX2_catches_12 : decode cX2_catches 12 = .ok (.getfield 58, 3) := tb_d tk_X2_catches_1 8 (12, .getfield 58, 3) rfl
theorem dX2_catches_15 : decode cX2_catches 15 = .ok (.iload_n 3, 1) := tb_d tk_X2_catches_1 9 (15, .iload_n 3, 1) rfl
theorem dX2_catches_16 : decode cX2_catches 16 = .ok (.iadd, 1) := tb_d tk_X2_catches_1 10 (16, .iadd, 1) rfl
theorem dX2_catches_17 : decode cX2_catches 17 = .ok (.invokevirtual 89, 3) := tb_d tk_X2_catches_1 11 (17, .invokevirtual 89, 3) rfl
theorem dX2_catches_20 : decode cX2_catches 20 = .ok (.ireturn, 1) := tb_d tk_X2_catches_1 12 (20, .ireturn, 1) rfl
theorem ggX2_hoursOf_X2_guardOn : GoodIn wsX2_hoursOf wsX2_guardOn := fun w h => ⟨List.mem_cons_of_mem _ (List.mem_append_right _ (List.mem_append_right _ (List.mem_append_right _ (List.mem_append_left _ h)))), good_of_word (gdX2_guardOn w h)⟩
set_option maxRecDepth 20000 in
theorem gX2_hoursOf_X2_guardOn : GoodIn wsX2_hoursOf (wsV RX2 74 RX2 yX2_guardOn wsX2_guardOn) := goodIn_app (goodIn_of _ (by decide +kernel)) ggX2_hoursOf_X2_guardOn
theorem ggX2_hoursOf_X7_bit : GoodIn wsX2_hoursOf wsX7_bit := fun w h => ⟨List.mem_cons_of_mem _ (List.mem_append_right _ (List.mem_append_right _ (List.mem_append_right _ (List.mem_append_right _ (List.mem_append_left _ h))))), good_of_word (gdX7_bit w h)⟩
set_option maxRecDepth 20000 in
theorem gX2_hoursOf_X7_bit_n92 : GoodIn wsX2_hoursOf (wsX7_bit) := ggX2_hoursOf_X7_bit
def tb_X2_hoursOf_1 : List (Nat × Instr × Nat) := [(0, .iconst 0, 1), (1, .istore_n 2, 1), (2, .iconst 0, 1), (3, .istore_n 3, 1), (4, .iload_n 3, 1), (5, .bipush 6, 2), (7, .if_icmp .ge 38, 3), (10, .iload_n 2, 1), (11, .aload_n 0, 1), (12, .aload_n 0, 1), (13, .getfield 24, 3), (16, .getfield 58, 3), (19, .iload_n 3, 1), (20, .invokevirtual 74, 3), (23, .iload_n 1, 1), (24, .if_icmp .ne 7, 3), (27, .iconst 1, 1), (28, .goto 4, 3), (31, .iconst 0, 1), (32, .invokestatic 92, 3), (35, .iload_n 3, 1), (36, .ishl, 1), (37, .ior, 1), (38, .istore_n 2, 1), (39, .iinc 3 1, 3), (42, .goto (-38), 3), (45, .iload_n 2, 1), (46, .ireturn, 1)]
set_option maxRecDepth 100000 in
theorem tk_X2_hoursOf_1 : (tb_X2_hoursOf_1.all fun q => decide (decode cX2_hoursOf q.1 = .ok q.2)) = true := by decide +kernel
theorem dX2_hoursOf_0 : decode cX2_hoursOf 0 = .ok (.iconst 0, 1) := tb_d tk_X2_hoursOf_1 0 (0, .iconst 0, 1) rfl
theorem dX2_hoursOf_1 : decode cX2_hoursOf 1 = .ok (.istore_n 2, 1) := tb_d tk_X2_hoursOf_1 1 (1, .istore_n 2, 1) rfl
theorem dX2_hoursOf_2 : decode cX2_hoursOf 2 = .ok (.iconst 0, 1) := tb_d tk_X2_hoursOf_1 2 (2, .iconst 0, 1) rfl
theorem dX2_hoursOf_3 : decode cX2_hoursOf 3 = .ok (.istore_n 3, 1) := tb_d tk_X2_hoursOf_1 3 (3, .istore_n 3, 1) rfl
theorem dX2_hoursOf_4 : decode cX2_hoursOf 4 = .ok (.iload_n 3, 1) := tb_d tk_X2_hoursOf_1 4 (4, .iload_n 3, 1) rfl
theorem dX2_hoursOf_5 : decode cX2_hoursOf 5 = .ok (.bipush 6, 2) := tb_d tk_X2_hoursOf_1 5 (5, .bipush 6, 2) rfl
theorem dX2_hoursOf_7 : decode cX2_hoursOf 7 = .ok (.if_icmp .ge 38, 3) := tb_d tk_X2_hoursOf_1 6 (7, .if_icmp .ge 38, 3) rfl
theorem dX2_hoursOf_10 : decode cX2_hoursOf 10 = .ok (.iload_n 2, 1) := tb_d tk_X2_hoursOf_1 7 (10, .iload_n 2, 1) rfl
theorem dX2_hoursOf_11 : decode cX2_hoursOf 11 = .ok (.aload_n 0, 1) := tb_d tk_X2_hoursOf_1 8 (11, .aload_n 0, 1) rfl
theorem dX2_hoursOf_12 : decode cX2_hoursOf 12 = .ok (.aload_n 0, 1) := tb_d tk_X2_hoursOf_1 9 (12, .aload_n 0, 1) rfl
theorem dX2_hoursOf_13 : decode cX2_hoursOf 13 = .ok (.getfield 24, 3) := tb_d tk_X2_hoursOf_1 10 (13, .getfield 24, 3) rfl
theorem dX2_hoursOf_16 : decode cX2_hoursOf 16 = .ok (.getfield 58, 3) := tb_d tk_X2_hoursOf_1 11 (16, .getfield 58, 3) rfl
theorem dX2_hoursOf_19 : decode cX2_hoursOf 19 = .ok (.iload_n 3, 1) := tb_d tk_X2_hoursOf_1 12 (19, .iload_n 3, 1) rfl
theorem dX2_hoursOf_20 : decode cX2_hoursOf 20 = .ok (.invokevirtual 74, 3) := tb_d tk_X2_hoursOf_1 13 (20, .invokevirtual 74, 3) rfl
theorem dX2_hoursOf_23 : decode cX2_hoursOf 23 = .ok (.iload_n 1, 1) := tb_d tk_X2_hoursOf_1 14 (23, .iload_n 1, 1) rfl
theorem dX2_hoursOf_24 : decode cX2_hoursOf 24 = .ok (.if_icmp .ne 7, 3) := tb_d tk_X2_hoursOf_1 15 (24, .if_icmp .ne 7, 3) rfl
theorem dX2_hoursOf_27 : decode cX2_hoursOf 27 = .ok (.iconst 1, 1) := tb_d tk_X2_hoursOf_1 16 (27, .iconst 1, 1) rfl
theorem dX2_hoursOf_28 : decode cX2_hoursOf 28 = .ok (.goto 4, 3) := tb_d tk_X2_hoursOf_1 17 (28, .goto 4, 3) rfl
theorem dX2_hoursOf_31 : decode cX2_hoursOf 31 = .ok (.iconst 0, 1) := tb_d tk_X2_hoursOf_1 18 (31, .iconst 0, 1) rfl
theorem dX2_hoursOf_32 : decode cX2_hoursOf 32 = .ok (.invokestatic 92, 3) := tb_d tk_X2_hoursOf_1 19 (32, .invokestatic 92, 3) rfl
theorem dX2_hoursOf_35 : decode cX2_hoursOf 35 = .ok (.iload_n 3, 1) := tb_d tk_X2_hoursOf_1 20 (35, .iload_n 3, 1) rfl
theorem dX2_hoursOf_36 : decode cX2_hoursOf 36 = .ok (.ishl, 1) := tb_d tk_X2_hoursOf_1 21 (36, .ishl, 1) rfl
theorem dX2_hoursOf_37 : decode cX2_hoursOf 37 = .ok (.ior, 1) := tb_d tk_X2_hoursOf_1 22 (37, .ior, 1) rfl
theorem dX2_hoursOf_38 : decode cX2_hoursOf 38 = .ok (.istore_n 2, 1) := tb_d tk_X2_hoursOf_1 23 (38, .istore_n 2, 1) rfl
theorem dX2_hoursOf_39 : decode cX2_hoursOf 39 = .ok (.iinc 3 1, 3) := tb_d tk_X2_hoursOf_1 24 (39, .iinc 3 1, 3) rfl
theorem dX2_hoursOf_42 : decode cX2_hoursOf 42 = .ok (.goto (-38), 3) := tb_d tk_X2_hoursOf_1 25 (42, .goto (-38), 3) rfl
theorem dX2_hoursOf_45 : decode cX2_hoursOf 45 = .ok (.iload_n 2, 1) := tb_d tk_X2_hoursOf_1 26 (45, .iload_n 2, 1) rfl
theorem dX2_hoursOf_46 : decode cX2_hoursOf 46 = .ok (.ireturn, 1) := tb_d tk_X2_hoursOf_1 27 (46, .ireturn, 1) rfl
theorem ggX2_wordsIn_X2_catches : GoodIn wsX2_wordsIn wsX2_catches := fun w h => ⟨List.mem_cons_of_mem _ (List.mem_append_right _ (List.mem_append_right _ (List.mem_append_right _ (List.mem_append_left _ h)))), good_of_word (gdX2_catches w h)⟩
set_option maxRecDepth 20000 in
theorem gX2_wordsIn_X2_catches : GoodIn wsX2_wordsIn (wsV RX2 96 RX2 yX2_catches wsX2_catches) := goodIn_app (goodIn_of _ (by decide +kernel)) ggX2_wordsIn_X2_catches
theorem ggX2_wordsIn_X7_bit : GoodIn wsX2_wordsIn wsX7_bit := fun w h => ⟨List.mem_cons_of_mem _ (List.mem_append_right _ (List.mem_append_right _ (List.mem_append_right _ (List.mem_append_right _ (List.mem_append_left _ h))))), good_of_word (gdX7_bit w h)⟩
set_option maxRecDepth 20000 in
theorem gX2_wordsIn_X7_bit_n92 : GoodIn wsX2_wordsIn (wsX7_bit) := ggX2_wordsIn_X7_bit
def tb_X2_wordsIn_1 : List (Nat × Instr × Nat) := [(0, .iconst 0, 1), (1, .istore_n 3, 1), (2, .iconst 0, 1), (3, .istore 4, 2), (5, .iload 4, 2), (7, .aload_n 0, 1), (8, .getfield 45, 3), (11, .if_icmp .ge 34, 3), (14, .iload_n 3, 1), (15, .aload_n 0, 1), (16, .iload 4, 2), (18, .iload_n 1, 1), (19, .iload_n 2, 1), (20, .invokevirtual 96, 3), (23, .ifCond .ne 7, 3), (26, .iconst 1, 1), (27, .goto 4, 3), (30, .iconst 0, 1), (31, .invokestatic 92, 3), (34, .iload 4, 2), (36, .ishl, 1), (37, .ior, 1), (38, .istore_n 3, 1), (39, .iinc 4 1, 3), (42, .goto (-37), 3), (45, .iload_n 3, 1), (46, .ireturn, 1)]
set_option maxRecDepth 100000 in
theorem tk_X2_wordsIn_1 : (tb_X2_wordsIn_1.all fun q => decide (decode cX2_wordsIn q.1 = .ok q.2)) = true := by decide +kernel
theorem dX2_wordsIn_0 : decode cX2_wordsIn 0 = .ok (.iconst 0, 1) := tb_d tk_X2_wordsIn_1 0 (0, .iconst 0, 1) rfl
theorem dX2_wordsIn_1 : decode cX2_wordsIn 1 = .ok (.istore_n 3, 1) := tb_d tk_X2_wordsIn_1 1 (1, .istore_n 3, 1) rfl
theorem dX2_wordsIn_2 : decode cX2_wordsIn 2 = .ok (.iconst 0, 1) := tb_d tk_X2_wordsIn_1 2 (2, .iconst 0, 1) rfl
theorem dX2_wordsIn_3 : decode cX2_wordsIn 3 = .ok (.istore 4, 2) := tb_d tk_X2_wordsIn_1 3 (3, .istore 4, 2) rfl
theorem dX2_wordsIn_5 : decode cX2_wordsIn 5 = .ok (.iload 4, 2) := tb_d tk_X2_wordsIn_1 4 (5, .iload 4, 2) rfl
theorem dX2_wordsIn_7 : decode cX2_wordsIn 7 = .ok (.aload_n 0, 1) := tb_d tk_X2_wordsIn_1 5 (7, .aload_n 0, 1) rfl
theorem dX2_wordsIn_8 : decode cX2_wordsIn 8 = .ok (.getfield 45, 3) := tb_d tk_X2_wordsIn_1 6 (8, .getfield 45, 3) rfl
theorem dX2_wordsIn_11 : decode cX2_wordsIn 11 = .ok (.if_icmp .ge 34, 3) := tb_d tk_X2_wordsIn_1 7 (11, .if_icmp .ge 34, 3) rfl
theorem dX2_wordsIn_14 : decode cX2_wordsIn 14 = .ok (.iload_n 3, 1) := tb_d tk_X2_wordsIn_1 8 (14, .iload_n 3, 1) rfl
theorem dX2_wordsIn_15 : decode cX2_wordsIn 15 = .ok (.aload_n 0, 1) := tb_d tk_X2_wordsIn_1 9 (15, .aload_n 0, 1) rfl
