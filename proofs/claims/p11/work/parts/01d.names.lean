def wsX8_menFor_o : List Cond := ([Cond.constant RX8 50 (-1000000), Cond.fieldLink RX8 25 "WrongWordModel" "now" "[I", Cond.fieldLink RX8 44 "WrongWordModel" "men" "[I", Cond.methodLink RX8 161 yX8_has, Cond.methodLink RX8 176 yX8_isTaken, Cond.selects RX8 yX8_isTaken yX8_isTaken, Cond.methodLink RX8 158 yX8_guardOn, Cond.selects RX8 yX8_guardOn yX8_guardOn, Cond.methodLink RX8 165 yX8_kindIn, Cond.selects RX8 yX8_kindIn yX8_kindIn, Cond.methodLink RX8 168 yX8_takesBy, Cond.selects RX8 yX8_takesBy yX8_takesBy, Cond.methodLink RX8 152 yX8_distance, Cond.selects RX8 yX8_distance yX8_distance, Cond.methodLink RX8 155 yX8_lips, Cond.selects RX8 yX8_lips yX8_lips] : List Cond)
def wsX8_menFor : List Cond := .code yX8_menFor cX8_menFor 8 (some .int) :: (wsX8_menFor_o ++ ((bkS RX8 217 yX8_ones) ++ ((bkV RX8 220 RX8 yX8_takenOf) ++ (wsX80 ++ (wsX8_ones ++ (wsX8_takenOf ++ ([] : List Cond)))))))
theorem itX8_menFor_o : ∀ w ∈ wsX8_menFor_o, w ∈ lw_tbl := List.forall_mem_cons.mpr ⟨tw_836, List.forall_mem_cons.mpr ⟨tw_850, List.forall_mem_cons.mpr ⟨tw_857, List.forall_mem_cons.mpr ⟨tw_1058, List.forall_mem_cons.mpr ⟨tw_1054, List.forall_mem_cons.mpr ⟨tw_48, List.forall_mem_cons.mpr ⟨tw_1046, List.forall_mem_cons.mpr ⟨tw_46, List.forall_mem_cons.mpr ⟨tw_1061, List.forall_mem_cons.mpr ⟨tw_49, List.forall_mem_cons.mpr ⟨tw_1065, List.forall_mem_cons.mpr ⟨tw_50, List.forall_mem_cons.mpr ⟨tw_1069, List.forall_mem_cons.mpr ⟨tw_51, List.forall_mem_cons.mpr ⟨tw_1073, List.forall_mem_cons.mpr ⟨tw_52, fun _ h => absurd h List.not_mem_nil⟩⟩⟩⟩⟩⟩⟩⟩⟩⟩⟩⟩⟩⟩⟩⟩
theorem itX8_menFor : ∀ w ∈ wsX8_menFor, w ∈ lw_tbl := List.forall_mem_cons.mpr ⟨tw_1170, List.forall_mem_append.mpr ⟨itX8_menFor_o, List.forall_mem_append.mpr ⟨it_b133, List.forall_mem_append.mpr ⟨it_b134, List.forall_mem_append.mpr ⟨itX80, List.forall_mem_append.mpr ⟨itX8_ones, List.forall_mem_append.mpr ⟨itX8_takenOf, fun _ h => absurd h List.not_mem_nil⟩⟩⟩⟩⟩⟩⟩
set_option maxRecDepth 100000 in
theorem gdX8_menFor_o : ∀ w ∈ wsX8_menFor_o, goodWord w = true := gd_o (by decide +kernel)
set_option maxRecDepth 100000 in
theorem gdX8_menFor : ∀ w ∈ wsX8_menFor, goodWord w = true := List.forall_mem_cons.mpr ⟨by decide +kernel, List.forall_mem_append.mpr ⟨gdX8_menFor_o, List.forall_mem_append.mpr ⟨gd_bS _ _ _, List.forall_mem_append.mpr ⟨gd_bV _ _ _ _, List.forall_mem_append.mpr ⟨gdX80, List.forall_mem_append.mpr ⟨gdX8_ones, List.forall_mem_append.mpr ⟨gdX8_takenOf, fun _ h => absurd h List.not_mem_nil⟩⟩⟩⟩⟩⟩⟩
def wsX8_fewest_o : List Cond := ([Cond.constant RX8 183 (-1000002), Cond.fieldLink RX8 44 "WrongWordModel" "men" "[I", Cond.fieldLink RX8 25 "WrongWordModel" "now" "[I", Cond.methodLink RX8 165 yX8_kindIn, Cond.selects RX8 yX8_kindIn yX8_kindIn, Cond.methodLink RX8 168 yX8_takesBy, Cond.selects RX8 yX8_takesBy yX8_takesBy, Cond.methodLink RX8 152 yX8_distance, Cond.selects RX8 yX8_distance yX8_distance, Cond.methodLink RX8 155 yX8_lips, Cond.selects RX8 yX8_lips yX8_lips, Cond.constant RX8 50 (-1000000), Cond.methodLink RX8 217 yX8_ones, Cond.methodLink RX8 220 yX8_takenOf, Cond.selects RX8 yX8_takenOf yX8_takenOf, Cond.methodLink RX8 161 yX8_has, Cond.methodLink RX8 176 yX8_isTaken, Cond.selects RX8 yX8_isTaken yX8_isTaken, Cond.methodLink RX8 158 yX8_guardOn, Cond.selects RX8 yX8_guardOn yX8_guardOn] : List Cond)
def wsX8_fewest : List Cond := .code yX8_fewest cX8_fewest 3 (some .int) :: (wsX8_fewest_o ++ ((bkV RX8 180 RX8 yX8_isGate) ++ ((bkV RX8 214 RX8 yX8_agreeing) ++ ((bkV RX8 224 RX8 yX8_menFor) ++ (wsX80 ++ (wsX8_isGate ++ (wsX8_agreeing ++ (wsX8_menFor ++ ([] : List Cond)))))))))
theorem itX8_fewest_o : ∀ w ∈ wsX8_fewest_o, w ∈ lw_tbl := List.forall_mem_cons.mpr ⟨tw_1023, List.forall_mem_cons.mpr ⟨tw_857, List.forall_mem_cons.mpr ⟨tw_850, List.forall_mem_cons.mpr ⟨tw_1061, List.forall_mem_cons.mpr ⟨tw_49, List.forall_mem_cons.mpr ⟨tw_1065, List.forall_mem_cons.mpr ⟨tw_50, List.forall_mem_cons.mpr ⟨tw_1069, List.forall_mem_cons.mpr ⟨tw_51, List.forall_mem_cons.mpr ⟨tw_1073, List.forall_mem_cons.mpr ⟨tw_52, List.forall_mem_cons.mpr ⟨tw_836, List.forall_mem_cons.mpr ⟨tw_1156, List.forall_mem_cons.mpr ⟨tw_1159, List.forall_mem_cons.mpr ⟨tw_58, List.forall_mem_cons.mpr ⟨tw_1058, List.forall_mem_cons.mpr ⟨tw_1054, List.forall_mem_cons.mpr ⟨tw_48, List.forall_mem_cons.mpr ⟨tw_1046, List.forall_mem_cons.mpr ⟨tw_46, fun _ h => absurd h List.not_mem_nil⟩⟩⟩⟩⟩⟩⟩⟩⟩⟩⟩⟩⟩⟩⟩⟩⟩⟩⟩⟩
theorem itX8_fewest : ∀ w ∈ wsX8_fewest, w ∈ lw_tbl := List.forall_mem_cons.mpr ⟨tw_1166, List.forall_mem_append.mpr ⟨itX8_fewest_o, List.forall_mem_append.mpr ⟨it_b121, List.forall_mem_append.mpr ⟨it_b132, List.forall_mem_append.mpr ⟨it_b135, List.forall_mem_append.mpr ⟨itX80, List.forall_mem_append.mpr ⟨itX8_isGate, List.forall_mem_append.mpr ⟨itX8_agreeing, List.forall_mem_append.mpr ⟨itX8_menFor, fun _ h => absurd h List.not_mem_nil⟩⟩⟩⟩⟩⟩⟩⟩⟩
set_option maxRecDepth 100000 in
theorem gdX8_fewest_o : ∀ w ∈ wsX8_fewest_o, goodWord w = true := gd_o (by decide +kernel)
set_option maxRecDepth 100000 in
theorem gdX8_fewest : ∀ w ∈ wsX8_fewest, goodWord w = true := List.forall_mem_cons.mpr ⟨by decide +kernel, List.forall_mem_append.mpr ⟨gdX8_fewest_o, List.forall_mem_append.mpr ⟨gd_bV _ _ _ _, List.forall_mem_append.mpr ⟨gd_bV _ _ _ _, List.forall_mem_append.mpr ⟨gd_bV _ _ _ _, List.forall_mem_append.mpr ⟨gdX80, List.forall_mem_append.mpr ⟨gdX8_isGate, List.forall_mem_append.mpr ⟨gdX8_agreeing, List.forall_mem_append.mpr ⟨gdX8_menFor, fun _ h => absurd h List.not_mem_nil⟩⟩⟩⟩⟩⟩⟩⟩⟩
def wsX8_march_o : List Cond := ([Cond.constant RX8 183 (-1000002), Cond.constant RX8 64 (-1000001), Cond.constant RX8 50 (-1000000), Cond.fieldLink RX8 16 "WrongWordModel" "items" "[I", Cond.fieldLink RX8 25 "WrongWordModel" "now" "[I", Cond.fieldLink RX8 7 "WrongWordModel" "lane" "[I", Cond.fieldLink RX8 51 "WrongWordModel" "status" "I", Cond.constant RX8 55 (-1000010), Cond.fieldLink RX8 13 "WrongWordModel" "many" "[I", Cond.methodLink RX8 172 yX8_secretOf, Cond.methodLink RX8 176 yX8_isTaken, Cond.selects RX8 yX8_isTaken yX8_isTaken, Cond.methodLink RX8 158 yX8_guardOn, Cond.selects RX8 yX8_guardOn yX8_guardOn, Cond.methodLink RX8 161 yX8_has, Cond.methodLink RX8 165 yX8_kindIn, Cond.selects RX8 yX8_kindIn yX8_kindIn, Cond.methodLink RX8 168 yX8_takesBy, Cond.selects RX8 yX8_takesBy yX8_takesBy, Cond.methodLink RX8 152 yX8_distance, Cond.selects RX8 yX8_distance yX8_distance, Cond.methodLink RX8 155 yX8_lips, Cond.selects RX8 yX8_lips yX8_lips] : List Cond)
def wsX8_march : List Cond := .code yX8_march cX8_march 9 (some .int) :: (wsX8_march_o ++ ((bkV RX8 180 RX8 yX8_isGate) ++ ((bkS RX8 60 yX8_isRow) ++ ((bkS RX8 56 yX8_in) ++ ((bkV RX8 72 RX8 yX8_isMissing) ++ ((bkV RX8 65 RX8 yX8_found) ++ ((bkV RX8 79 RX8 yX8_isPart) ++ ((bkV RX8 190 RX8 yX8_isWord) ++ ((bkV RX8 196 RX8 yX8_isTakenNow) ++ ((bkV RX8 69 RX8 yX8_well) ++ (wsX80 ++ (wsX8_isGate ++ (wsX8_isRow ++ (wsX8_in ++ (wsX8_isMissing ++ (wsX8_found ++ (wsX8_isPart ++ (wsX8_isWord ++ (wsX8_isTakenNow ++ (wsX8_well ++ ([] : List Cond)))))))))))))))))))))
theorem itX8_march_o : ∀ w ∈ wsX8_march_o, w ∈ lw_tbl := List.forall_mem_cons.mpr ⟨tw_1023, List.forall_mem_cons.mpr ⟨tw_918, List.forall_mem_cons.mpr ⟨tw_836, List.forall_mem_cons.mpr ⟨tw_839, List.forall_mem_cons.mpr ⟨tw_850, List.forall_mem_cons.mpr ⟨tw_837, List.forall_mem_cons.mpr ⟨tw_841, List.forall_mem_cons.mpr ⟨tw_923, List.forall_mem_cons.mpr ⟨tw_838, List.forall_mem_cons.mpr ⟨tw_1032, List.forall_mem_cons.mpr ⟨tw_1054, List.forall_mem_cons.mpr ⟨tw_48, List.forall_mem_cons.mpr ⟨tw_1046, List.forall_mem_cons.mpr ⟨tw_46, List.forall_mem_cons.mpr ⟨tw_1058, List.forall_mem_cons.mpr ⟨tw_1061, List.forall_mem_cons.mpr ⟨tw_49, List.forall_mem_cons.mpr ⟨tw_1065, List.forall_mem_cons.mpr ⟨tw_50, List.forall_mem_cons.mpr ⟨tw_1069, List.forall_mem_cons.mpr ⟨tw_51, List.forall_mem_cons.mpr ⟨tw_1073, List.forall_mem_cons.mpr ⟨tw_52, fun _ h => absurd h List.not_mem_nil⟩⟩⟩⟩⟩⟩⟩⟩⟩⟩⟩⟩⟩⟩⟩⟩⟩⟩⟩⟩⟩⟩⟩
theorem itX8_march : ∀ w ∈ wsX8_march, w ∈ lw_tbl := List.forall_mem_cons.mpr ⟨tw_1174, List.forall_mem_append.mpr ⟨itX8_march_o, List.forall_mem_append.mpr ⟨it_b121, List.forall_mem_append.mpr ⟨it_b94, List.forall_mem_append.mpr ⟨it_b93, List.forall_mem_append.mpr ⟨it_b97, List.forall_mem_append.mpr ⟨it_b95, List.forall_mem_append.mpr ⟨it_b99, List.forall_mem_append.mpr ⟨it_b124, List.forall_mem_append.mpr ⟨it_b126, List.forall_mem_append.mpr ⟨it_b96, List.forall_mem_append.mpr ⟨itX80, List.forall_mem_append.mpr ⟨itX8_isGate, List.forall_mem_append.mpr ⟨itX8_isRow, List.forall_mem_append.mpr ⟨itX8_in, List.forall_mem_append.mpr ⟨itX8_isMissing, List.forall_mem_append.mpr ⟨itX8_found, List.forall_mem_append.mpr ⟨itX8_isPart, List.forall_mem_append.mpr ⟨itX8_isWord, List.forall_mem_append.mpr ⟨itX8_isTakenNow, List.forall_mem_append.mpr ⟨itX8_well, fun _ h => absurd h List.not_mem_nil⟩⟩⟩⟩⟩⟩⟩⟩⟩⟩⟩⟩⟩⟩⟩⟩⟩⟩⟩⟩⟩
set_option maxRecDepth 100000 in
theorem gdX8_march_o : ∀ w ∈ wsX8_march_o, goodWord w = true := gd_o (by decide +kernel)
set_option maxRecDepth 100000 in
theorem gdX8_march : ∀ w ∈ wsX8_march, goodWord w = true := List.forall_mem_cons.mpr ⟨by decide +kernel, List.forall_mem_append.mpr ⟨gdX8_march_o, List.forall_mem_append.mpr ⟨gd_bV _ _ _ _, List.forall_mem_append.mpr ⟨gd_bS _ _ _, List.forall_mem_append.mpr ⟨gd_bS _ _ _, List.forall_mem_append.mpr ⟨gd_bV _ _ _ _, List.forall_mem_append.mpr ⟨gd_bV _ _ _ _, List.forall_mem_append.mpr ⟨gd_bV _ _ _ _, List.forall_mem_append.mpr ⟨gd_bV _ _ _ _, List.forall_mem_append.mpr ⟨gd_bV _ _ _ _, List.forall_mem_append.mpr ⟨gd_bV _ _ _ _, List.forall_mem_append.mpr ⟨gdX80, List.forall_mem_append.mpr ⟨gdX8_isGate, List.forall_mem_append.mpr ⟨gdX8_isRow, List.forall_mem_append.mpr ⟨gdX8_in, List.forall_mem_append.mpr ⟨gdX8_isMissing, List.forall_mem_append.mpr ⟨gdX8_found, List.forall_mem_append.mpr ⟨gdX8_isPart, List.forall_mem_append.mpr ⟨gdX8_isWord, List.forall_mem_append.mpr ⟨gdX8_isTakenNow, List.forall_mem_append.mpr ⟨gdX8_well, fun _ h => absurd h List.not_mem_nil⟩⟩⟩⟩⟩⟩⟩⟩⟩⟩⟩⟩⟩⟩⟩⟩⟩⟩⟩⟩⟩
def wsX8_cheap_o : List Cond := ([Cond.constant RX8 183 (-1000002), Cond.constant RX8 64 (-1000001), Cond.constant RX8 50 (-1000000), Cond.fieldLink RX8 25 "WrongWordModel" "now" "[I", Cond.methodLink RX8 172 yX8_secretOf, Cond.methodLink RX8 176 yX8_isTaken, Cond.selects RX8 yX8_isTaken yX8_isTaken, Cond.methodLink RX8 158 yX8_guardOn, Cond.selects RX8 yX8_guardOn yX8_guardOn, Cond.methodLink RX8 165 yX8_kindIn, Cond.selects RX8 yX8_kindIn yX8_kindIn, Cond.methodLink RX8 168 yX8_takesBy, Cond.selects RX8 yX8_takesBy yX8_takesBy, Cond.methodLink RX8 152 yX8_distance, Cond.selects RX8 yX8_distance yX8_distance, Cond.methodLink RX8 155 yX8_lips, Cond.selects RX8 yX8_lips yX8_lips] : List Cond)
def wsX8_cheap : List Cond := .code yX8_cheap cX8_cheap 10 (some .int) :: (wsX8_cheap_o ++ ((bkV RX8 180 RX8 yX8_isGate) ++ ((bkV RX8 208 RX8 yX8_areWords) ++ ((bkS RX8 205 yX8_isFar) ++ ((bkS RX8 56 yX8_in) ++ ((bkS RX8 161 yX8_has) ++ ((bkV RX8 211 RX8 yX8_areIn) ++ ((bkS RX8 217 yX8_ones) ++ (wsX80 ++ (wsX8_isGate ++ (wsX8_areWords ++ (wsX8_isFar ++ (wsX8_in ++ (wsX8_has ++ (wsX8_areIn ++ (wsX8_ones ++ ([] : List Cond)))))))))))))))))
theorem itX8_cheap_o : ∀ w ∈ wsX8_cheap_o, w ∈ lw_tbl := List.forall_mem_cons.mpr ⟨tw_1023, List.forall_mem_cons.mpr ⟨tw_918, List.forall_mem_cons.mpr ⟨tw_836, List.forall_mem_cons.mpr ⟨tw_850, List.forall_mem_cons.mpr ⟨tw_1032, List.forall_mem_cons.mpr ⟨tw_1054, List.forall_mem_cons.mpr ⟨tw_48, List.forall_mem_cons.mpr ⟨tw_1046, List.forall_mem_cons.mpr ⟨tw_46, List.forall_mem_cons.mpr ⟨tw_1061, List.forall_mem_cons.mpr ⟨tw_49, List.forall_mem_cons.mpr ⟨tw_1065, List.forall_mem_cons.mpr ⟨tw_50, List.forall_mem_cons.mpr ⟨tw_1069, List.forall_mem_cons.mpr ⟨tw_51, List.forall_mem_cons.mpr ⟨tw_1073, List.forall_mem_cons.mpr ⟨tw_52, fun _ h => absurd h List.not_mem_nil⟩⟩⟩⟩⟩⟩⟩⟩⟩⟩⟩⟩⟩⟩⟩⟩⟩
theorem itX8_cheap : ∀ w ∈ wsX8_cheap, w ∈ lw_tbl := List.forall_mem_cons.mpr ⟨tw_1178, List.forall_mem_append.mpr ⟨itX8_cheap_o, List.forall_mem_append.mpr ⟨it_b121, List.forall_mem_append.mpr ⟨it_b130, List.forall_mem_append.mpr ⟨it_b129, List.forall_mem_append.mpr ⟨it_b93, List.forall_mem_append.mpr ⟨it_b116, List.forall_mem_append.mpr ⟨it_b131, List.forall_mem_append.mpr ⟨it_b133, List.forall_mem_append.mpr ⟨itX80, List.forall_mem_append.mpr ⟨itX8_isGate, List.forall_mem_append.mpr ⟨itX8_areWords, List.forall_mem_append.mpr ⟨itX8_isFar, List.forall_mem_append.mpr ⟨itX8_in, List.forall_mem_append.mpr ⟨itX8_has, List.forall_mem_append.mpr ⟨itX8_areIn, List.forall_mem_append.mpr ⟨itX8_ones, fun _ h => absurd h List.not_mem_nil⟩⟩⟩⟩⟩⟩⟩⟩⟩⟩⟩⟩⟩⟩⟩⟩⟩
set_option maxRecDepth 100000 in
theorem gdX8_cheap_o : ∀ w ∈ wsX8_cheap_o, goodWord w = true := gd_o (by decide +kernel)
set_option maxRecDepth 100000 in
theorem gdX8_cheap : ∀ w ∈ wsX8_cheap, goodWord w = true := List.forall_mem_cons.mpr ⟨by decide +kernel, List.forall_mem_append.mpr ⟨gdX8_cheap_o, List.forall_mem_append.mpr ⟨gd_bV _ _ _ _, List.forall_mem_append.mpr ⟨gd_bV _ _ _ _, List.forall_mem_append.mpr ⟨gd_bS _ _ _, List.forall_mem_append.mpr ⟨gd_bS _ _ _, List.forall_mem_append.mpr ⟨gd_bS _ _ _, List.forall_mem_append.mpr ⟨gd_bV _ _ _ _, List.forall_mem_append.mpr ⟨gd_bS _ _ _, List.forall_mem_append.mpr ⟨gdX80, List.forall_mem_append.mpr ⟨gdX8_isGate, List.forall_mem_append.mpr ⟨gdX8_areWords, List.forall_mem_append.mpr ⟨gdX8_isFar, List.forall_mem_append.mpr ⟨gdX8_in, List.forall_mem_append.mpr ⟨gdX8_has, List.forall_mem_append.mpr ⟨gdX8_areIn, List.forall_mem_append.mpr ⟨gdX8_ones, fun _ h => absurd h List.not_mem_nil⟩⟩⟩⟩⟩⟩⟩⟩⟩⟩⟩⟩⟩⟩⟩⟩⟩
def wsX8_near_o : List Cond := ([Cond.constant RX8 64 (-1000001), Cond.constant RX8 50 (-1000000), Cond.fieldLink RX8 25 "WrongWordModel" "now" "[I"] : List Cond)
def wsX8_near : List Cond := .code yX8_near cX8_near 5 (some .int) :: (wsX8_near_o ++ ((bkV RX8 190 RX8 yX8_isWord) ++ ((bkS RX8 56 yX8_in) ++ ((bkV RX8 152 RX8 yX8_distance) ++ (wsX80 ++ (wsX8_isWord ++ (wsX8_in ++ (wsX8_distance ++ ([] : List Cond)))))))))
theorem itX8_near_o : ∀ w ∈ wsX8_near_o, w ∈ lw_tbl := List.forall_mem_cons.mpr ⟨tw_918, List.forall_mem_cons.mpr ⟨tw_836, List.forall_mem_cons.mpr ⟨tw_850, fun _ h => absurd h List.not_mem_nil⟩⟩⟩
theorem itX8_near : ∀ w ∈ wsX8_near, w ∈ lw_tbl := List.forall_mem_cons.mpr ⟨tw_1182, List.forall_mem_append.mpr ⟨itX8_near_o, List.forall_mem_append.mpr ⟨it_b124, List.forall_mem_append.mpr ⟨it_b93, List.forall_mem_append.mpr ⟨it_b113, List.forall_mem_append.mpr ⟨itX80, List.forall_mem_append.mpr ⟨itX8_isWord, List.forall_mem_append.mpr ⟨itX8_in, List.forall_mem_append.mpr ⟨itX8_distance, fun _ h => absurd h List.not_mem_nil⟩⟩⟩⟩⟩⟩⟩⟩⟩
set_option maxRecDepth 100000 in
theorem gdX8_near_o : ∀ w ∈ wsX8_near_o, goodWord w = true := gd_o (by decide +kernel)
set_option maxRecDepth 100000 in
theorem gdX8_near : ∀ w ∈ wsX8_near, goodWord w = true := List.forall_mem_cons.mpr ⟨by decide +kernel, List.forall_mem_append.mpr ⟨gdX8_near_o, List.forall_mem_append.mpr ⟨gd_bV _ _ _ _, List.forall_mem_append.mpr ⟨gd_bS _ _ _, List.forall_mem_append.mpr ⟨gd_bV _ _ _ _, List.forall_mem_append.mpr ⟨gdX80, List.forall_mem_append.mpr ⟨gdX8_isWord, List.forall_mem_append.mpr ⟨gdX8_in, List.forall_mem_append.mpr ⟨gdX8_distance, fun _ h => absurd h List.not_mem_nil⟩⟩⟩⟩⟩⟩⟩⟩⟩
def wsX8_rules_o : List Cond := ([Cond.constant RX8 183 (-1000002), Cond.constant RX8 64 (-1000001), Cond.fieldLink RX8 25 "WrongWordModel" "now" "[I", Cond.fieldLink RX8 31 "WrongWordModel" "tried" "[I", Cond.fieldLink RX8 16 "WrongWordModel" "items" "[I", Cond.fieldLink RX8 7 "WrongWordModel" "lane" "[I", Cond.constant RX8 50 (-1000000), Cond.fieldLink RX8 51 "WrongWordModel" "status" "I", Cond.constant RX8 55 (-1000010), Cond.fieldLink RX8 13 "WrongWordModel" "many" "[I"] : List Cond)
def wsX8_rules : List Cond := .code yX8_rules cX8_rules 9 (some .int) :: (wsX8_rules_o ++ ((bkV RX8 180 RX8 yX8_isGate) ++ ((bkS RX8 60 yX8_isRow) ++ ((bkS RX8 56 yX8_in) ++ ((bkV RX8 72 RX8 yX8_isMissing) ++ ((bkV RX8 65 RX8 yX8_found) ++ ((bkV RX8 79 RX8 yX8_isPart) ++ ((bkS RX8 145 yX8_copies) ++ ((bkS RX8 172 yX8_secretOf) ++ ((bkV RX8 69 RX8 yX8_well) ++ (wsX80 ++ (wsX8_isGate ++ (wsX8_isRow ++ (wsX8_in ++ (wsX8_isMissing ++ (wsX8_found ++ (wsX8_isPart ++ (wsX8_copies ++ (wsX8_secretOf ++ (wsX8_well ++ ([] : List Cond)))))))))))))))))))))
theorem itX8_rules_o : ∀ w ∈ wsX8_rules_o, w ∈ lw_tbl := List.forall_mem_cons.mpr ⟨tw_1023, List.forall_mem_cons.mpr ⟨tw_918, List.forall_mem_cons.mpr ⟨tw_850, List.forall_mem_cons.mpr ⟨tw_852, List.forall_mem_cons.mpr ⟨tw_839, List.forall_mem_cons.mpr ⟨tw_837, List.forall_mem_cons.mpr ⟨tw_836, List.forall_mem_cons.mpr ⟨tw_841, List.forall_mem_cons.mpr ⟨tw_923, List.forall_mem_cons.mpr ⟨tw_838, fun _ h => absurd h List.not_mem_nil⟩⟩⟩⟩⟩⟩⟩⟩⟩⟩
theorem itX8_rules : ∀ w ∈ wsX8_rules, w ∈ lw_tbl := List.forall_mem_cons.mpr ⟨tw_1186, List.forall_mem_append.mpr ⟨itX8_rules_o, List.forall_mem_append.mpr ⟨it_b121, List.forall_mem_append.mpr ⟨it_b94, List.forall_mem_append.mpr ⟨it_b93, List.forall_mem_append.mpr ⟨it_b97, List.forall_mem_append.mpr ⟨it_b95, List.forall_mem_append.mpr ⟨it_b99, List.forall_mem_append.mpr ⟨it_b112, List.forall_mem_append.mpr ⟨it_b119, List.forall_mem_append.mpr ⟨it_b96, List.forall_mem_append.mpr ⟨itX80, List.forall_mem_append.mpr ⟨itX8_isGate, List.forall_mem_append.mpr ⟨itX8_isRow, List.forall_mem_append.mpr ⟨itX8_in, List.forall_mem_append.mpr ⟨itX8_isMissing, List.forall_mem_append.mpr ⟨itX8_found, List.forall_mem_append.mpr ⟨itX8_isPart, List.forall_mem_append.mpr ⟨itX8_copies, List.forall_mem_append.mpr ⟨itX8_secretOf, List.forall_mem_append.mpr ⟨itX8_well, fun _ h => absurd h List.not_mem_nil⟩⟩⟩⟩⟩⟩⟩⟩⟩⟩⟩⟩⟩⟩⟩⟩⟩⟩⟩⟩⟩
set_option maxRecDepth 100000 in
theorem gdX8_rules_o : ∀ w ∈ wsX8_rules_o, goodWord w = true := gd_o (by decide +kernel)
set_option maxRecDepth 100000 in
theorem gdX8_rules : ∀ w ∈ wsX8_rules, goodWord w = true := List.forall_mem_cons.mpr ⟨by decide +kernel, List.forall_mem_append.mpr ⟨gdX8_rules_o, List.forall_mem_append.mpr ⟨gd_bV _ _ _ _, List.forall_mem_append.mpr ⟨gd_bS _ _ _, List.forall_mem_append.mpr ⟨gd_bS _ _ _, List.forall_mem_append.mpr ⟨gd_bV _ _ _ _, List.forall_mem_append.mpr ⟨gd_bV _ _ _ _, List.forall_mem_append.mpr ⟨gd_bV _ _ _ _, List.forall_mem_append.mpr ⟨gd_bS _ _ _, List.forall_mem_append.mpr ⟨gd_bS _ _ _, List.forall_mem_append.mpr ⟨gd_bV _ _ _ _, List.forall_mem_append.mpr ⟨gdX80, List.forall_mem_append.mpr ⟨gdX8_isGate, List.forall_mem_append.mpr ⟨gdX8_isRow, List.forall_mem_append.mpr ⟨gdX8_in, List.forall_mem_append.mpr ⟨gdX8_isMissing, List.forall_mem_append.mpr ⟨gdX8_found, List.forall_mem_append.mpr ⟨gdX8_isPart, List.forall_mem_append.mpr ⟨gdX8_copies, List.forall_mem_append.mpr ⟨gdX8_secretOf, List.forall_mem_append.mpr ⟨gdX8_well, fun _ h => absurd h List.not_mem_nil⟩⟩⟩⟩⟩⟩⟩⟩⟩⟩⟩⟩⟩⟩⟩⟩⟩⟩⟩⟩⟩
def wsX8_takesSo_o : List Cond := ([Cond.fieldLink RX8 25 "WrongWordModel" "now" "[I", Cond.fieldLink RX8 16 "WrongWordModel" "items" "[I", Cond.methodLink RX8 152 yX8_distance, Cond.selects RX8 yX8_distance yX8_distance, Cond.methodLink RX8 155 yX8_lips, Cond.selects RX8 yX8_lips yX8_lips] : List Cond)
def wsX8_takesSo : List Cond := .code yX8_takesSo cX8_takesSo 6 (some .boolean) :: (wsX8_takesSo_o ++ ((bkV RX8 168 RX8 yX8_takesBy) ++ (wsX80 ++ (wsX8_takesBy ++ ([] : List Cond)))))
theorem itX8_takesSo_o : ∀ w ∈ wsX8_takesSo_o, w ∈ lw_tbl := List.forall_mem_cons.mpr ⟨tw_850, List.forall_mem_cons.mpr ⟨tw_839, List.forall_mem_cons.mpr ⟨tw_1069, List.forall_mem_cons.mpr ⟨tw_51, List.forall_mem_cons.mpr ⟨tw_1073, List.forall_mem_cons.mpr ⟨tw_52, fun _ h => absurd h List.not_mem_nil⟩⟩⟩⟩⟩⟩
theorem itX8_takesSo : ∀ w ∈ wsX8_takesSo, w ∈ lw_tbl := List.forall_mem_cons.mpr ⟨tw_1194, List.forall_mem_append.mpr ⟨itX8_takesSo_o, List.forall_mem_append.mpr ⟨it_b118, List.forall_mem_append.mpr ⟨itX80, List.forall_mem_append.mpr ⟨itX8_takesBy, fun _ h => absurd h List.not_mem_nil⟩⟩⟩⟩⟩
set_option maxRecDepth 100000 in
theorem gdX8_takesSo_o : ∀ w ∈ wsX8_takesSo_o, goodWord w = true := gd_o (by decide +kernel)
set_option maxRecDepth 100000 in
theorem gdX8_takesSo : ∀ w ∈ wsX8_takesSo, goodWord w = true := List.forall_mem_cons.mpr ⟨by decide +kernel, List.forall_mem_append.mpr ⟨gdX8_takesSo_o, List.forall_mem_append.mpr ⟨gd_bV _ _ _ _, List.forall_mem_append.mpr ⟨gdX80, List.forall_mem_append.mpr ⟨gdX8_takesBy, fun _ h => absurd h List.not_mem_nil⟩⟩⟩⟩⟩
def wsX8_fits_o : List Cond := ([Cond.constant RX8 64 (-1000001), Cond.fieldLink RX8 25 "WrongWordModel" "now" "[I", Cond.fieldLink RX8 7 "WrongWordModel" "lane" "[I", Cond.constant RX8 50 (-1000000), Cond.fieldLink RX8 51 "WrongWordModel" "status" "I", Cond.constant RX8 55 (-1000010), Cond.fieldLink RX8 13 "WrongWordModel" "many" "[I", Cond.fieldLink RX8 16 "WrongWordModel" "items" "[I", Cond.methodLink RX8 168 yX8_takesBy, Cond.selects RX8 yX8_takesBy yX8_takesBy, Cond.methodLink RX8 152 yX8_distance, Cond.selects RX8 yX8_distance yX8_distance, Cond.methodLink RX8 155 yX8_lips, Cond.selects RX8 yX8_lips yX8_lips] : List Cond)
def wsX8_fits : List Cond := .code yX8_fits cX8_fits 8 (some .int) :: (wsX8_fits_o ++ ((bkV RX8 199 RX8 yX8_isGuard) ++ ((bkS RX8 60 yX8_isRow) ++ ((bkS RX8 56 yX8_in) ++ ((bkV RX8 72 RX8 yX8_isMissing) ++ ((bkV RX8 65 RX8 yX8_found) ++ ((bkV RX8 79 RX8 yX8_isPart) ++ ((bkS RX8 172 yX8_secretOf) ++ ((bkV RX8 227 RX8 yX8_takesSo) ++ ((bkV RX8 165 RX8 yX8_kindIn) ++ ((bkV RX8 69 RX8 yX8_well) ++ (wsX80 ++ (wsX8_isGuard ++ (wsX8_isRow ++ (wsX8_in ++ (wsX8_isMissing ++ (wsX8_found ++ (wsX8_isPart ++ (wsX8_secretOf ++ (wsX8_takesSo ++ (wsX8_kindIn ++ (wsX8_well ++ ([] : List Cond)))))))))))))))))))))))
theorem itX8_fits_o : ∀ w ∈ wsX8_fits_o, w ∈ lw_tbl := List.forall_mem_cons.mpr ⟨tw_918, List.forall_mem_cons.mpr ⟨tw_850, List.forall_mem_cons.mpr ⟨tw_837, List.forall_mem_cons.mpr ⟨tw_836, List.forall_mem_cons.mpr ⟨tw_841, List.forall_mem_cons.mpr ⟨tw_923, List.forall_mem_cons.mpr ⟨tw_838, List.forall_mem_cons.mpr ⟨tw_839, List.forall_mem_cons.mpr ⟨tw_1065, List.forall_mem_cons.mpr ⟨tw_50, List.forall_mem_cons.mpr ⟨tw_1069, List.forall_mem_cons.mpr ⟨tw_51, List.forall_mem_cons.mpr ⟨tw_1073, List.forall_mem_cons.mpr ⟨tw_52, fun _ h => absurd h List.not_mem_nil⟩⟩⟩⟩⟩⟩⟩⟩⟩⟩⟩⟩⟩⟩
theorem itX8_fits : ∀ w ∈ wsX8_fits, w ∈ lw_tbl := List.forall_mem_cons.mpr ⟨tw_1190, List.forall_mem_append.mpr ⟨itX8_fits_o, List.forall_mem_append.mpr ⟨it_b127, List.forall_mem_append.mpr ⟨it_b94, List.forall_mem_append.mpr ⟨it_b93, List.forall_mem_append.mpr ⟨it_b97, List.forall_mem_append.mpr ⟨it_b95, List.forall_mem_append.mpr ⟨it_b99, List.forall_mem_append.mpr ⟨it_b119, List.forall_mem_append.mpr ⟨it_b136, List.forall_mem_append.mpr ⟨it_b117, List.forall_mem_append.mpr ⟨it_b96, List.forall_mem_append.mpr ⟨itX80, List.forall_mem_append.mpr ⟨itX8_isGuard, List.forall_mem_append.mpr ⟨itX8_isRow, List.forall_mem_append.mpr ⟨itX8_in, List.forall_mem_append.mpr ⟨itX8_isMissing, List.forall_mem_append.mpr ⟨itX8_found, List.forall_mem_append.mpr ⟨itX8_isPart, List.forall_mem_append.mpr ⟨itX8_secretOf, List.forall_mem_append.mpr ⟨itX8_takesSo, List.forall_mem_append.mpr ⟨itX8_kindIn, List.forall_mem_append.mpr ⟨itX8_well, fun _ h => absurd h List.not_mem_nil⟩⟩⟩⟩⟩⟩⟩⟩⟩⟩⟩⟩⟩⟩⟩⟩⟩⟩⟩⟩⟩⟩⟩
set_option maxRecDepth 100000 in
theorem gdX8_fits_o : ∀ w ∈ wsX8_fits_o, goodWord w = true := gd_o (by decide +kernel)
set_option maxRecDepth 100000 in
theorem gdX8_fits : ∀ w ∈ wsX8_fits, goodWord w = true := List.forall_mem_cons.mpr ⟨by decide +kernel, List.forall_mem_append.mpr ⟨gdX8_fits_o, List.forall_mem_append.mpr ⟨gd_bV _ _ _ _, List.forall_mem_append.mpr ⟨gd_bS _ _ _, List.forall_mem_append.mpr ⟨gd_bS _ _ _, List.forall_mem_append.mpr ⟨gd_bV _ _ _ _, List.forall_mem_append.mpr ⟨gd_bV _ _ _ _, List.forall_mem_append.mpr ⟨gd_bV _ _ _ _, List.forall_mem_append.mpr ⟨gd_bS _ _ _, List.forall_mem_append.mpr ⟨gd_bV _ _ _ _, List.forall_mem_append.mpr ⟨gd_bV _ _ _ _, List.forall_mem_append.mpr ⟨gd_bV _ _ _ _, List.forall_mem_append.mpr ⟨gdX80, List.forall_mem_append.mpr ⟨gdX8_isGuard, List.forall_mem_append.mpr ⟨gdX8_isRow, List.forall_mem_append.mpr ⟨gdX8_in, List.forall_mem_append.mpr ⟨gdX8_isMissing, List.forall_mem_append.mpr ⟨gdX8_found, List.forall_mem_append.mpr ⟨gdX8_isPart, List.forall_mem_append.mpr ⟨gdX8_secretOf, List.forall_mem_append.mpr ⟨gdX8_takesSo, List.forall_mem_append.mpr ⟨gdX8_kindIn, List.forall_mem_append.mpr ⟨gdX8_well, fun _ h => absurd h List.not_mem_nil⟩⟩⟩⟩⟩⟩⟩⟩⟩⟩⟩⟩⟩⟩⟩⟩⟩⟩⟩⟩⟩⟩⟩
def wsX8_sure_o : List Cond := ([Cond.constant RX8 64 (-1000001), Cond.fieldLink RX8 25 "WrongWordModel" "now" "[I", Cond.methodLink RX8 165 yX8_kindIn, Cond.selects RX8 yX8_kindIn yX8_kindIn, Cond.methodLink RX8 168 yX8_takesBy, Cond.selects RX8 yX8_takesBy yX8_takesBy, Cond.methodLink RX8 152 yX8_distance, Cond.selects RX8 yX8_distance yX8_distance, Cond.methodLink RX8 155 yX8_lips, Cond.selects RX8 yX8_lips yX8_lips, Cond.methodLink RX8 161 yX8_has, Cond.methodLink RX8 176 yX8_isTaken, Cond.selects RX8 yX8_isTaken yX8_isTaken, Cond.methodLink RX8 158 yX8_guardOn, Cond.selects RX8 yX8_guardOn yX8_guardOn] : List Cond)
def wsX8_sure : List Cond := .code yX8_sure cX8_sure 12 (some .int) :: (wsX8_sure_o ++ ((bkV RX8 190 RX8 yX8_isWord) ++ ((bkS RX8 193 yX8_isHour) ++ ((bkS RX8 56 yX8_in) ++ ((bkV RX8 214 RX8 yX8_agreeing) ++ ((bkV RX8 220 RX8 yX8_takenOf) ++ ((bkS RX8 217 yX8_ones) ++ (wsX80 ++ (wsX8_isWord ++ (wsX8_isHour ++ (wsX8_in ++ (wsX8_agreeing ++ (wsX8_takenOf ++ (wsX8_ones ++ ([] : List Cond)))))))))))))))
theorem itX8_sure_o : ∀ w ∈ wsX8_sure_o, w ∈ lw_tbl := List.forall_mem_cons.mpr ⟨tw_918, List.forall_mem_cons.mpr ⟨tw_850, List.forall_mem_cons.mpr ⟨tw_1061, List.forall_mem_cons.mpr ⟨tw_49, List.forall_mem_cons.mpr ⟨tw_1065, List.forall_mem_cons.mpr ⟨tw_50, List.forall_mem_cons.mpr ⟨tw_1069, List.forall_mem_cons.mpr ⟨tw_51, List.forall_mem_cons.mpr ⟨tw_1073, List.forall_mem_cons.mpr ⟨tw_52, List.forall_mem_cons.mpr ⟨tw_1058, List.forall_mem_cons.mpr ⟨tw_1054, List.forall_mem_cons.mpr ⟨tw_48, List.forall_mem_cons.mpr ⟨tw_1046, List.forall_mem_cons.mpr ⟨tw_46, fun _ h => absurd h List.not_mem_nil⟩⟩⟩⟩⟩⟩⟩⟩⟩⟩⟩⟩⟩⟩⟩
theorem itX8_sure : ∀ w ∈ wsX8_sure, w ∈ lw_tbl := List.forall_mem_cons.mpr ⟨tw_1198, List.forall_mem_append.mpr ⟨itX8_sure_o, List.forall_mem_append.mpr ⟨it_b124, List.forall_mem_append.mpr ⟨it_b125, List.forall_mem_append.mpr ⟨it_b93, List.forall_mem_append.mpr ⟨it_b132, List.forall_mem_append.mpr ⟨it_b134, List.forall_mem_append.mpr ⟨it_b133, List.forall_mem_append.mpr ⟨itX80, List.forall_mem_append.mpr ⟨itX8_isWord, List.forall_mem_append.mpr ⟨itX8_isHour, List.forall_mem_append.mpr ⟨itX8_in, List.forall_mem_append.mpr ⟨itX8_agreeing, List.forall_mem_append.mpr ⟨itX8_takenOf, List.forall_mem_append.mpr ⟨itX8_ones, fun _ h => absurd h List.not_mem_nil⟩⟩⟩⟩⟩⟩⟩⟩⟩⟩⟩⟩⟩⟩⟩
set_option maxRecDepth 100000 in
theorem gdX8_sure_o : ∀ w ∈ wsX8_sure_o, goodWord w = true := gd_o (by decide +kernel)
set_option maxRecDepth 100000 in
theorem gdX8_sure : ∀ w ∈ wsX8_sure, goodWord w = true := List.forall_mem_cons.mpr ⟨by decide +kernel, List.forall_mem_append.mpr ⟨gdX8_sure_o, List.forall_mem_append.mpr ⟨gd_bV _ _ _ _, List.forall_mem_append.mpr ⟨gd_bS _ _ _, List.forall_mem_append.mpr ⟨gd_bS _ _ _, List.forall_mem_append.mpr ⟨gd_bV _ _ _ _, List.forall_mem_append.mpr ⟨gd_bV _ _ _ _, List.forall_mem_append.mpr ⟨gd_bS _ _ _, List.forall_mem_append.mpr ⟨gdX80, List.forall_mem_append.mpr ⟨gdX8_isWord, List.forall_mem_append.mpr ⟨gdX8_isHour, List.forall_mem_append.mpr ⟨gdX8_in, List.forall_mem_append.mpr ⟨gdX8_agreeing, List.forall_mem_append.mpr ⟨gdX8_takenOf, List.forall_mem_append.mpr ⟨gdX8_ones, fun _ h => absurd h List.not_mem_nil⟩⟩⟩⟩⟩⟩⟩⟩⟩⟩⟩⟩⟩⟩⟩
def wsX8_drawn_o : List Cond := ([Cond.constant RX8 183 (-1000002), Cond.constant RX8 230 (999999), Cond.constant RX8 64 (-1000001), Cond.constantLong RX8 231 (16807), Cond.constantLong RX8 233 (2147483647), Cond.fieldLink RX8 25 "WrongWordModel" "now" "[I", Cond.constantLong RX8 235 (6), Cond.methodLink RX8 172 yX8_secretOf, Cond.methodLink RX8 176 yX8_isTaken, Cond.selects RX8 yX8_isTaken yX8_isTaken, Cond.methodLink RX8 158 yX8_guardOn, Cond.selects RX8 yX8_guardOn yX8_guardOn, Cond.methodLink RX8 161 yX8_has, Cond.methodLink RX8 165 yX8_kindIn, Cond.selects RX8 yX8_kindIn yX8_kindIn, Cond.methodLink RX8 168 yX8_takesBy, Cond.selects RX8 yX8_takesBy yX8_takesBy, Cond.methodLink RX8 152 yX8_distance, Cond.selects RX8 yX8_distance yX8_distance, Cond.methodLink RX8 155 yX8_lips, Cond.selects RX8 yX8_lips yX8_lips] : List Cond)
def wsX8_drawn : List Cond := .code yX8_drawn cX8_drawn 11 (some .int) :: (wsX8_drawn_o ++ ((bkV RX8 180 RX8 yX8_isGate) ++ ((bkS RX8 205 yX8_isFar) ++ ((bkS RX8 56 yX8_in) ++ ((bkV RX8 196 RX8 yX8_isTakenNow) ++ (wsX80 ++ (wsX8_isGate ++ (wsX8_isFar ++ (wsX8_in ++ (wsX8_isTakenNow ++ ([] : List Cond)))))))))))
theorem itX8_drawn_o : ∀ w ∈ wsX8_drawn_o, w ∈ lw_tbl := List.forall_mem_cons.mpr ⟨tw_1023, List.forall_mem_cons.mpr ⟨tw_1203, List.forall_mem_cons.mpr ⟨tw_918, List.forall_mem_cons.mpr ⟨tw_1204, List.forall_mem_cons.mpr ⟨tw_1205, List.forall_mem_cons.mpr ⟨tw_850, List.forall_mem_cons.mpr ⟨tw_1206, List.forall_mem_cons.mpr ⟨tw_1032, List.forall_mem_cons.mpr ⟨tw_1054, List.forall_mem_cons.mpr ⟨tw_48, List.forall_mem_cons.mpr ⟨tw_1046, List.forall_mem_cons.mpr ⟨tw_46, List.forall_mem_cons.mpr ⟨tw_1058, List.forall_mem_cons.mpr ⟨tw_1061, List.forall_mem_cons.mpr ⟨tw_49, List.forall_mem_cons.mpr ⟨tw_1065, List.forall_mem_cons.mpr ⟨tw_50, List.forall_mem_cons.mpr ⟨tw_1069, List.forall_mem_cons.mpr ⟨tw_51, List.forall_mem_cons.mpr ⟨tw_1073, List.forall_mem_cons.mpr ⟨tw_52, fun _ h => absurd h List.not_mem_nil⟩⟩⟩⟩⟩⟩⟩⟩⟩⟩⟩⟩⟩⟩⟩⟩⟩⟩⟩⟩⟩
theorem itX8_drawn : ∀ w ∈ wsX8_drawn, w ∈ lw_tbl := List.forall_mem_cons.mpr ⟨tw_1202, List.forall_mem_append.mpr ⟨itX8_drawn_o, List.forall_mem_append.mpr ⟨it_b121, List.forall_mem_append.mpr ⟨it_b129, List.forall_mem_append.mpr ⟨it_b93, List.forall_mem_append.mpr ⟨it_b126, List.forall_mem_append.mpr ⟨itX80, List.forall_mem_append.mpr ⟨itX8_isGate, List.forall_mem_append.mpr ⟨itX8_isFar, List.forall_mem_append.mpr ⟨itX8_in, List.forall_mem_append.mpr ⟨itX8_isTakenNow, fun _ h => absurd h List.not_mem_nil⟩⟩⟩⟩⟩⟩⟩⟩⟩⟩⟩
set_option maxRecDepth 100000 in
theorem gdX8_drawn_o : ∀ w ∈ wsX8_drawn_o, goodWord w = true := gd_o (by decide +kernel)
set_option maxRecDepth 100000 in
theorem gdX8_drawn : ∀ w ∈ wsX8_drawn, goodWord w = true := List.forall_mem_cons.mpr ⟨by decide +kernel, List.forall_mem_append.mpr ⟨gdX8_drawn_o, List.forall_mem_append.mpr ⟨gd_bV _ _ _ _, List.forall_mem_append.mpr ⟨gd_bS _ _ _, List.forall_mem_append.mpr ⟨gd_bS _ _ _, List.forall_mem_append.mpr ⟨gd_bV _ _ _ _, List.forall_mem_append.mpr ⟨gdX80, List.forall_mem_append.mpr ⟨gdX8_isGate, List.forall_mem_append.mpr ⟨gdX8_isFar, List.forall_mem_append.mpr ⟨gdX8_in, List.forall_mem_append.mpr ⟨gdX8_isTakenNow, fun _ h => absurd h List.not_mem_nil⟩⟩⟩⟩⟩⟩⟩⟩⟩⟩⟩
def wsX8_image_o : List Cond := ([Cond.constant RX8 64 (-1000001), Cond.constant RX8 183 (-1000002), Cond.fieldLink RX8 25 "WrongWordModel" "now" "[I", Cond.fieldLink RX8 37 "WrongWordModel" "images" "[I", Cond.fieldLink RX8 40 "WrongWordModel" "kept" "[Z"] : List Cond)
def wsX8_image : List Cond := .code yX8_image cX8_image 2 (some .int) :: (wsX8_image_o ++ ((bkS RX8 56 yX8_in) ++ ((bkV RX8 180 RX8 yX8_isGate) ++ ((bkS RX8 145 yX8_copies) ++ (wsX80 ++ (wsX8_in ++ (wsX8_isGate ++ (wsX8_copies ++ ([] : List Cond)))))))))
theorem itX8_image_o : ∀ w ∈ wsX8_image_o, w ∈ lw_tbl := List.forall_mem_cons.mpr ⟨tw_918, List.forall_mem_cons.mpr ⟨tw_1023, List.forall_mem_cons.mpr ⟨tw_850, List.forall_mem_cons.mpr ⟨tw_855, List.forall_mem_cons.mpr ⟨tw_856, fun _ h => absurd h List.not_mem_nil⟩⟩⟩⟩⟩
theorem itX8_image : ∀ w ∈ wsX8_image, w ∈ lw_tbl := List.forall_mem_cons.mpr ⟨tw_1210, List.forall_mem_append.mpr ⟨itX8_image_o, List.forall_mem_append.mpr ⟨it_b93, List.forall_mem_append.mpr ⟨it_b121, List.forall_mem_append.mpr ⟨it_b112, List.forall_mem_append.mpr ⟨itX80, List.forall_mem_append.mpr ⟨itX8_in, List.forall_mem_append.mpr ⟨itX8_isGate, List.forall_mem_append.mpr ⟨itX8_copies, fun _ h => absurd h List.not_mem_nil⟩⟩⟩⟩⟩⟩⟩⟩⟩
set_option maxRecDepth 100000 in
theorem gdX8_image_o : ∀ w ∈ wsX8_image_o, goodWord w = true := gd_o (by decide +kernel)
set_option maxRecDepth 100000 in
theorem gdX8_image : ∀ w ∈ wsX8_image, goodWord w = true := List.forall_mem_cons.mpr ⟨by decide +kernel, List.forall_mem_append.mpr ⟨gdX8_image_o, List.forall_mem_append.mpr ⟨gd_bS _ _ _, List.forall_mem_append.mpr ⟨gd_bV _ _ _ _, List.forall_mem_append.mpr ⟨gd_bS _ _ _, List.forall_mem_append.mpr ⟨gdX80, List.forall_mem_append.mpr ⟨gdX8_in, List.forall_mem_append.mpr ⟨gdX8_isGate, List.forall_mem_append.mpr ⟨gdX8_copies, fun _ h => absurd h List.not_mem_nil⟩⟩⟩⟩⟩⟩⟩⟩⟩
def wsX8_restore_o : List Cond := ([Cond.constant RX8 64 (-1000001), Cond.fieldLink RX8 40 "WrongWordModel" "kept" "[Z", Cond.constant RX8 183 (-1000002), Cond.fieldLink RX8 37 "WrongWordModel" "images" "[I", Cond.fieldLink RX8 25 "WrongWordModel" "now" "[I", Cond.fieldLink RX8 149 "WrongWordModel" "acts" "I"] : List Cond)
def wsX8_restore : List Cond := .code yX8_restore cX8_restore 2 (some .int) :: (wsX8_restore_o ++ ((bkS RX8 56 yX8_in) ++ ((bkS RX8 145 yX8_copies) ++ (wsX80 ++ (wsX8_in ++ (wsX8_copies ++ ([] : List Cond)))))))
theorem itX8_restore_o : ∀ w ∈ wsX8_restore_o, w ∈ lw_tbl := List.forall_mem_cons.mpr ⟨tw_918, List.forall_mem_cons.mpr ⟨tw_856, List.forall_mem_cons.mpr ⟨tw_1023, List.forall_mem_cons.mpr ⟨tw_855, List.forall_mem_cons.mpr ⟨tw_850, List.forall_mem_cons.mpr ⟨tw_854, fun _ h => absurd h List.not_mem_nil⟩⟩⟩⟩⟩⟩
theorem itX8_restore : ∀ w ∈ wsX8_restore, w ∈ lw_tbl := List.forall_mem_cons.mpr ⟨tw_1214, List.forall_mem_append.mpr ⟨itX8_restore_o, List.forall_mem_append.mpr ⟨it_b93, List.forall_mem_append.mpr ⟨it_b112, List.forall_mem_append.mpr ⟨itX80, List.forall_mem_append.mpr ⟨itX8_in, List.forall_mem_append.mpr ⟨itX8_copies, fun _ h => absurd h List.not_mem_nil⟩⟩⟩⟩⟩⟩⟩
set_option maxRecDepth 100000 in
theorem gdX8_restore_o : ∀ w ∈ wsX8_restore_o, goodWord w = true := gd_o (by decide +kernel)
set_option maxRecDepth 100000 in
theorem gdX8_restore : ∀ w ∈ wsX8_restore, goodWord w = true := List.forall_mem_cons.mpr ⟨by decide +kernel, List.forall_mem_append.mpr ⟨gdX8_restore_o, List.forall_mem_append.mpr ⟨gd_bS _ _ _, List.forall_mem_append.mpr ⟨gd_bS _ _ _, List.forall_mem_append.mpr ⟨gdX80, List.forall_mem_append.mpr ⟨gdX8_in, List.forall_mem_append.mpr ⟨gdX8_copies, fun _ h => absurd h List.not_mem_nil⟩⟩⟩⟩⟩⟩⟩
def wsX8_kind_o : List Cond := ([Cond.constant RX8 64 (-1000001), Cond.fieldLink RX8 25 "WrongWordModel" "now" "[I", Cond.methodLink RX8 56 yX8_in] : List Cond)
def wsX8_kind : List Cond := .code yX8_kind cX8_kind 2 (some .int) :: (wsX8_kind_o ++ ((bkV RX8 199 RX8 yX8_isGuard) ++ ((bkV RX8 165 RX8 yX8_kindIn) ++ (wsX80 ++ (wsX8_isGuard ++ (wsX8_kindIn ++ ([] : List Cond)))))))
theorem itX8_kind_o : ∀ w ∈ wsX8_kind_o, w ∈ lw_tbl := List.forall_mem_cons.mpr ⟨tw_918, List.forall_mem_cons.mpr ⟨tw_850, List.forall_mem_cons.mpr ⟨tw_915, fun _ h => absurd h List.not_mem_nil⟩⟩⟩
theorem itX8_kind : ∀ w ∈ wsX8_kind, w ∈ lw_tbl := List.forall_mem_cons.mpr ⟨tw_1218, List.forall_mem_append.mpr ⟨itX8_kind_o, List.forall_mem_append.mpr ⟨it_b127, List.forall_mem_append.mpr ⟨it_b117, List.forall_mem_append.mpr ⟨itX80, List.forall_mem_append.mpr ⟨itX8_isGuard, List.forall_mem_append.mpr ⟨itX8_kindIn, fun _ h => absurd h List.not_mem_nil⟩⟩⟩⟩⟩⟩⟩
set_option maxRecDepth 100000 in
theorem gdX8_kind_o : ∀ w ∈ wsX8_kind_o, goodWord w = true := gd_o (by decide +kernel)
set_option maxRecDepth 100000 in
theorem gdX8_kind : ∀ w ∈ wsX8_kind, goodWord w = true := List.forall_mem_cons.mpr ⟨by decide +kernel, List.forall_mem_append.mpr ⟨gdX8_kind_o, List.forall_mem_append.mpr ⟨gd_bV _ _ _ _, List.forall_mem_append.mpr ⟨gd_bV _ _ _ _, List.forall_mem_append.mpr ⟨gdX80, List.forall_mem_append.mpr ⟨gdX8_isGuard, List.forall_mem_append.mpr ⟨gdX8_kindIn, fun _ h => absurd h List.not_mem_nil⟩⟩⟩⟩⟩⟩⟩
def wsX8_as_o : List Cond := ([Cond.constant RX8 64 (-1000001), Cond.fieldLink RX8 25 "WrongWordModel" "now" "[I", Cond.fieldLink RX8 51 "WrongWordModel" "status" "I", Cond.constant RX8 55 (-1000010)] : List Cond)
def wsX8_as : List Cond := .code yX8_as cX8_as 5 (some .int) :: (wsX8_as_o ++ ((bkV RX8 199 RX8 yX8_isGuard) ++ ((bkS RX8 56 yX8_in) ++ ((bkV RX8 165 RX8 yX8_kindIn) ++ ((bkV RX8 69 RX8 yX8_well) ++ ((bkV RX8 65 RX8 yX8_found) ++ (wsX80 ++ (wsX8_isGuard ++ (wsX8_in ++ (wsX8_kindIn ++ (wsX8_well ++ (wsX8_found ++ ([] : List Cond)))))))))))))
theorem itX8_as_o : ∀ w ∈ wsX8_as_o, w ∈ lw_tbl := List.forall_mem_cons.mpr ⟨tw_918, List.forall_mem_cons.mpr ⟨tw_850, List.forall_mem_cons.mpr ⟨tw_841, List.forall_mem_cons.mpr ⟨tw_923, fun _ h => absurd h List.not_mem_nil⟩⟩⟩⟩
theorem itX8_as : ∀ w ∈ wsX8_as, w ∈ lw_tbl := List.forall_mem_cons.mpr ⟨tw_1222, List.forall_mem_append.mpr ⟨itX8_as_o, List.forall_mem_append.mpr ⟨it_b127, List.forall_mem_append.mpr ⟨it_b93, List.forall_mem_append.mpr ⟨it_b117, List.forall_mem_append.mpr ⟨it_b96, List.forall_mem_append.mpr ⟨it_b95, List.forall_mem_append.mpr ⟨itX80, List.forall_mem_append.mpr ⟨itX8_isGuard, List.forall_mem_append.mpr ⟨itX8_in, List.forall_mem_append.mpr ⟨itX8_kindIn, List.forall_mem_append.mpr ⟨itX8_well, List.forall_mem_append.mpr ⟨itX8_found, fun _ h => absurd h List.not_mem_nil⟩⟩⟩⟩⟩⟩⟩⟩⟩⟩⟩⟩⟩
set_option maxRecDepth 100000 in
theorem gdX8_as_o : ∀ w ∈ wsX8_as_o, goodWord w = true := gd_o (by decide +kernel)
set_option maxRecDepth 100000 in
theorem gdX8_as : ∀ w ∈ wsX8_as, goodWord w = true := List.forall_mem_cons.mpr ⟨by decide +kernel, List.forall_mem_append.mpr ⟨gdX8_as_o, List.forall_mem_append.mpr ⟨gd_bV _ _ _ _, List.forall_mem_append.mpr ⟨gd_bS _ _ _, List.forall_mem_append.mpr ⟨gd_bV _ _ _ _, List.forall_mem_append.mpr ⟨gd_bV _ _ _ _, List.forall_mem_append.mpr ⟨gd_bV _ _ _ _, List.forall_mem_append.mpr ⟨gdX80, List.forall_mem_append.mpr ⟨gdX8_isGuard, List.forall_mem_append.mpr ⟨gdX8_in, List.forall_mem_append.mpr ⟨gdX8_kindIn, List.forall_mem_append.mpr ⟨gdX8_well, List.forall_mem_append.mpr ⟨gdX8_found, fun _ h => absurd h List.not_mem_nil⟩⟩⟩⟩⟩⟩⟩⟩⟩⟩⟩⟩⟩
def wsX8_begins_o : List Cond := ([Cond.fieldLink RX8 237 "WrongWordModel" "traced" "I", Cond.fieldLink RX8 47 "WrongWordModel" "trace" "[I"] : List Cond)
def wsX8_begins : List Cond := .code yX8_begins cX8_begins 2 none :: (wsX8_begins_o ++ (wsX80 ++ ([] : List Cond)))
theorem itX8_begins_o : ∀ w ∈ wsX8_begins_o, w ∈ lw_tbl := List.forall_mem_cons.mpr ⟨tw_859, List.forall_mem_cons.mpr ⟨tw_858, fun _ h => absurd h List.not_mem_nil⟩⟩
theorem itX8_begins : ∀ w ∈ wsX8_begins, w ∈ lw_tbl := List.forall_mem_cons.mpr ⟨tw_1234, List.forall_mem_append.mpr ⟨itX8_begins_o, List.forall_mem_append.mpr ⟨itX80, fun _ h => absurd h List.not_mem_nil⟩⟩⟩
set_option maxRecDepth 100000 in
theorem gdX8_begins_o : ∀ w ∈ wsX8_begins_o, goodWord w = true := gd_o (by decide +kernel)
set_option maxRecDepth 100000 in
theorem gdX8_begins : ∀ w ∈ wsX8_begins, goodWord w = true := List.forall_mem_cons.mpr ⟨by decide +kernel, List.forall_mem_append.mpr ⟨gdX8_begins_o, List.forall_mem_append.mpr ⟨gdX80, fun _ h => absurd h List.not_mem_nil⟩⟩⟩
def wsX8_keenMark_o : List Cond := ([Cond.fieldLink RX8 25 "WrongWordModel" "now" "[I", Cond.fieldLink RX8 237 "WrongWordModel" "traced" "I", Cond.fieldLink RX8 47 "WrongWordModel" "trace" "[I"] : List Cond)
def wsX8_keenMark : List Cond := .code yX8_keenMark cX8_keenMark 4 (some .int) :: (wsX8_keenMark_o ++ ((bkV RX8 165 RX8 yX8_kindIn) ++ ((bkV RX8 240 RX8 yX8_begins) ++ (wsX80 ++ (wsX8_kindIn ++ (wsX8_begins ++ ([] : List Cond)))))))
theorem itX8_keenMark_o : ∀ w ∈ wsX8_keenMark_o, w ∈ lw_tbl := List.forall_mem_cons.mpr ⟨tw_850, List.forall_mem_cons.mpr ⟨tw_859, List.forall_mem_cons.mpr ⟨tw_858, fun _ h => absurd h List.not_mem_nil⟩⟩⟩
theorem itX8_keenMark : ∀ w ∈ wsX8_keenMark, w ∈ lw_tbl := List.forall_mem_cons.mpr ⟨tw_1242, List.forall_mem_append.mpr ⟨itX8_keenMark_o, List.forall_mem_append.mpr ⟨it_b117, List.forall_mem_append.mpr ⟨it_b137, List.forall_mem_append.mpr ⟨itX80, List.forall_mem_append.mpr ⟨itX8_kindIn, List.forall_mem_append.mpr ⟨itX8_begins, fun _ h => absurd h List.not_mem_nil⟩⟩⟩⟩⟩⟩⟩
set_option maxRecDepth 100000 in
theorem gdX8_keenMark_o : ∀ w ∈ wsX8_keenMark_o, goodWord w = true := gd_o (by decide +kernel)
set_option maxRecDepth 100000 in
theorem gdX8_keenMark : ∀ w ∈ wsX8_keenMark, goodWord w = true := List.forall_mem_cons.mpr ⟨by decide +kernel, List.forall_mem_append.mpr ⟨gdX8_keenMark_o, List.forall_mem_append.mpr ⟨gd_bV _ _ _ _, List.forall_mem_append.mpr ⟨gd_bV _ _ _ _, List.forall_mem_append.mpr ⟨gdX80, List.forall_mem_append.mpr ⟨gdX8_kindIn, List.forall_mem_append.mpr ⟨gdX8_begins, fun _ h => absurd h List.not_mem_nil⟩⟩⟩⟩⟩⟩⟩
def wsX8_deafSize_o : List Cond := ([Cond.fieldLink RX8 25 "WrongWordModel" "now" "[I", Cond.fieldLink RX8 237 "WrongWordModel" "traced" "I", Cond.fieldLink RX8 47 "WrongWordModel" "trace" "[I"] : List Cond)
def wsX8_deafSize : List Cond := .code yX8_deafSize cX8_deafSize 4 (some .int) :: (wsX8_deafSize_o ++ ((bkV RX8 165 RX8 yX8_kindIn) ++ ((bkV RX8 240 RX8 yX8_begins) ++ (wsX80 ++ (wsX8_kindIn ++ (wsX8_begins ++ ([] : List Cond)))))))
theorem itX8_deafSize_o : ∀ w ∈ wsX8_deafSize_o, w ∈ lw_tbl := List.forall_mem_cons.mpr ⟨tw_850, List.forall_mem_cons.mpr ⟨tw_859, List.forall_mem_cons.mpr ⟨tw_858, fun _ h => absurd h List.not_mem_nil⟩⟩⟩
theorem itX8_deafSize : ∀ w ∈ wsX8_deafSize, w ∈ lw_tbl := List.forall_mem_cons.mpr ⟨tw_1230, List.forall_mem_append.mpr ⟨itX8_deafSize_o, List.forall_mem_append.mpr ⟨it_b117, List.forall_mem_append.mpr ⟨it_b137, List.forall_mem_append.mpr ⟨itX80, List.forall_mem_append.mpr ⟨itX8_kindIn, List.forall_mem_append.mpr ⟨itX8_begins, fun _ h => absurd h List.not_mem_nil⟩⟩⟩⟩⟩⟩⟩
set_option maxRecDepth 100000 in
theorem gdX8_deafSize_o : ∀ w ∈ wsX8_deafSize_o, goodWord w = true := gd_o (by decide +kernel)
set_option maxRecDepth 100000 in
theorem gdX8_deafSize : ∀ w ∈ wsX8_deafSize, goodWord w = true := List.forall_mem_cons.mpr ⟨by decide +kernel, List.forall_mem_append.mpr ⟨gdX8_deafSize_o, List.forall_mem_append.mpr ⟨gd_bV _ _ _ _, List.forall_mem_append.mpr ⟨gd_bV _ _ _ _, List.forall_mem_append.mpr ⟨gdX80, List.forall_mem_append.mpr ⟨gdX8_kindIn, List.forall_mem_append.mpr ⟨gdX8_begins, fun _ h => absurd h List.not_mem_nil⟩⟩⟩⟩⟩⟩⟩
def wsX8_keenSize_o : List Cond := ([Cond.fieldLink RX8 25 "WrongWordModel" "now" "[I", Cond.fieldLink RX8 237 "WrongWordModel" "traced" "I", Cond.fieldLink RX8 47 "WrongWordModel" "trace" "[I"] : List Cond)
def wsX8_keenSize : List Cond := .code yX8_keenSize cX8_keenSize 4 (some .int) :: (wsX8_keenSize_o ++ ((bkV RX8 165 RX8 yX8_kindIn) ++ ((bkV RX8 240 RX8 yX8_begins) ++ ((bkV RX8 244 RX8 yX8_keenMark) ++ (wsX80 ++ (wsX8_kindIn ++ (wsX8_begins ++ (wsX8_keenMark ++ ([] : List Cond)))))))))
theorem itX8_keenSize_o : ∀ w ∈ wsX8_keenSize_o, w ∈ lw_tbl := List.forall_mem_cons.mpr ⟨tw_850, List.forall_mem_cons.mpr ⟨tw_859, List.forall_mem_cons.mpr ⟨tw_858, fun _ h => absurd h List.not_mem_nil⟩⟩⟩
theorem itX8_keenSize : ∀ w ∈ wsX8_keenSize, w ∈ lw_tbl := List.forall_mem_cons.mpr ⟨tw_1238, List.forall_mem_append.mpr ⟨itX8_keenSize_o, List.forall_mem_append.mpr ⟨it_b117, List.forall_mem_append.mpr ⟨it_b137, List.forall_mem_append.mpr ⟨it_b138, List.forall_mem_append.mpr ⟨itX80, List.forall_mem_append.mpr ⟨itX8_kindIn, List.forall_mem_append.mpr ⟨itX8_begins, List.forall_mem_append.mpr ⟨itX8_keenMark, fun _ h => absurd h List.not_mem_nil⟩⟩⟩⟩⟩⟩⟩⟩⟩
set_option maxRecDepth 100000 in
theorem gdX8_keenSize_o : ∀ w ∈ wsX8_keenSize_o, goodWord w = true := gd_o (by decide +kernel)
set_option maxRecDepth 100000 in
theorem gdX8_keenSize : ∀ w ∈ wsX8_keenSize, goodWord w = true := List.forall_mem_cons.mpr ⟨by decide +kernel, List.forall_mem_append.mpr ⟨gdX8_keenSize_o, List.forall_mem_append.mpr ⟨gd_bV _ _ _ _, List.forall_mem_append.mpr ⟨gd_bV _ _ _ _, List.forall_mem_append.mpr ⟨gd_bV _ _ _ _, List.forall_mem_append.mpr ⟨gdX80, List.forall_mem_append.mpr ⟨gdX8_kindIn, List.forall_mem_append.mpr ⟨gdX8_begins, List.forall_mem_append.mpr ⟨gdX8_keenMark, fun _ h => absurd h List.not_mem_nil⟩⟩⟩⟩⟩⟩⟩⟩⟩
def wsX8_deafMark_o : List Cond := ([Cond.fieldLink RX8 237 "WrongWordModel" "traced" "I", Cond.fieldLink RX8 47 "WrongWordModel" "trace" "[I", Cond.fieldLink RX8 25 "WrongWordModel" "now" "[I", Cond.methodLink RX8 165 yX8_kindIn, Cond.selects RX8 yX8_kindIn yX8_kindIn] : List Cond)
def wsX8_deafMark : List Cond := .code yX8_deafMark cX8_deafMark 2 (some .int) :: (wsX8_deafMark_o ++ ((bkV RX8 240 RX8 yX8_begins) ++ ((bkV RX8 247 RX8 yX8_deafSize) ++ (wsX80 ++ (wsX8_begins ++ (wsX8_deafSize ++ ([] : List Cond)))))))
theorem itX8_deafMark_o : ∀ w ∈ wsX8_deafMark_o, w ∈ lw_tbl := List.forall_mem_cons.mpr ⟨tw_859, List.forall_mem_cons.mpr ⟨tw_858, List.forall_mem_cons.mpr ⟨tw_850, List.forall_mem_cons.mpr ⟨tw_1061, List.forall_mem_cons.mpr ⟨tw_49, fun _ h => absurd h List.not_mem_nil⟩⟩⟩⟩⟩
theorem itX8_deafMark : ∀ w ∈ wsX8_deafMark, w ∈ lw_tbl := List.forall_mem_cons.mpr ⟨tw_1246, List.forall_mem_append.mpr ⟨itX8_deafMark_o, List.forall_mem_append.mpr ⟨it_b137, List.forall_mem_append.mpr ⟨it_b139, List.forall_mem_append.mpr ⟨itX80, List.forall_mem_append.mpr ⟨itX8_begins, List.forall_mem_append.mpr ⟨itX8_deafSize, fun _ h => absurd h List.not_mem_nil⟩⟩⟩⟩⟩⟩⟩
set_option maxRecDepth 100000 in
theorem gdX8_deafMark_o : ∀ w ∈ wsX8_deafMark_o, goodWord w = true := gd_o (by decide +kernel)
set_option maxRecDepth 100000 in
theorem gdX8_deafMark : ∀ w ∈ wsX8_deafMark, goodWord w = true := List.forall_mem_cons.mpr ⟨by decide +kernel, List.forall_mem_append.mpr ⟨gdX8_deafMark_o, List.forall_mem_append.mpr ⟨gd_bV _ _ _ _, List.forall_mem_append.mpr ⟨gd_bV _ _ _ _, List.forall_mem_append.mpr ⟨gdX80, List.forall_mem_append.mpr ⟨gdX8_begins, List.forall_mem_append.mpr ⟨gdX8_deafSize, fun _ h => absurd h List.not_mem_nil⟩⟩⟩⟩⟩⟩⟩
def wsX8_ask_o : List Cond := ([Cond.constant RX8 64 (-1000001), Cond.fieldLink RX8 237 "WrongWordModel" "traced" "I", Cond.fieldLink RX8 25 "WrongWordModel" "now" "[I", Cond.methodLink RX8 240 yX8_begins, Cond.selects RX8 yX8_begins yX8_begins, Cond.fieldLink RX8 47 "WrongWordModel" "trace" "[I"] : List Cond)
def wsX8_ask : List Cond := .code yX8_ask cX8_ask 4 (some .int) :: (wsX8_ask_o ++ ((bkV RX8 199 RX8 yX8_isGuard) ++ ((bkS RX8 56 yX8_in) ++ ((bkV RX8 165 RX8 yX8_kindIn) ++ ((bkV RX8 247 RX8 yX8_deafSize) ++ ((bkV RX8 250 RX8 yX8_keenSize) ++ ((bkV RX8 253 RX8 yX8_deafMark) ++ ((bkV RX8 244 RX8 yX8_keenMark) ++ (wsX80 ++ (wsX8_isGuard ++ (wsX8_in ++ (wsX8_kindIn ++ (wsX8_deafSize ++ (wsX8_keenSize ++ (wsX8_deafMark ++ (wsX8_keenMark ++ ([] : List Cond)))))))))))))))))
theorem itX8_ask_o : ∀ w ∈ wsX8_ask_o, w ∈ lw_tbl := List.forall_mem_cons.mpr ⟨tw_918, List.forall_mem_cons.mpr ⟨tw_859, List.forall_mem_cons.mpr ⟨tw_850, List.forall_mem_cons.mpr ⟨tw_1231, List.forall_mem_cons.mpr ⟨tw_62, List.forall_mem_cons.mpr ⟨tw_858, fun _ h => absurd h List.not_mem_nil⟩⟩⟩⟩⟩⟩
theorem itX8_ask : ∀ w ∈ wsX8_ask, w ∈ lw_tbl := List.forall_mem_cons.mpr ⟨tw_1226, List.forall_mem_append.mpr ⟨itX8_ask_o, List.forall_mem_append.mpr ⟨it_b127, List.forall_mem_append.mpr ⟨it_b93, List.forall_mem_append.mpr ⟨it_b117, List.forall_mem_append.mpr ⟨it_b139, List.forall_mem_append.mpr ⟨it_b140, List.forall_mem_append.mpr ⟨it_b141, List.forall_mem_append.mpr ⟨it_b138, List.forall_mem_append.mpr ⟨itX80, List.forall_mem_append.mpr ⟨itX8_isGuard, List.forall_mem_append.mpr ⟨itX8_in, List.forall_mem_append.mpr ⟨itX8_kindIn, List.forall_mem_append.mpr ⟨itX8_deafSize, List.forall_mem_append.mpr ⟨itX8_keenSize, List.forall_mem_append.mpr ⟨itX8_deafMark, List.forall_mem_append.mpr ⟨itX8_keenMark, fun _ h => absurd h List.not_mem_nil⟩⟩⟩⟩⟩⟩⟩⟩⟩⟩⟩⟩⟩⟩⟩⟩⟩
set_option maxRecDepth 100000 in
theorem gdX8_ask_o : ∀ w ∈ wsX8_ask_o, goodWord w = true := gd_o (by decide +kernel)
set_option maxRecDepth 100000 in
theorem gdX8_ask : ∀ w ∈ wsX8_ask, goodWord w = true := List.forall_mem_cons.mpr ⟨by decide +kernel, List.forall_mem_append.mpr ⟨gdX8_ask_o, List.forall_mem_append.mpr ⟨gd_bV _ _ _ _, List.forall_mem_append.mpr ⟨gd_bS _ _ _, List.forall_mem_append.mpr ⟨gd_bV _ _ _ _, List.forall_mem_append.mpr ⟨gd_bV _ _ _ _, List.forall_mem_append.mpr ⟨gd_bV _ _ _ _, List.forall_mem_append.mpr ⟨gd_bV _ _ _ _, List.forall_mem_append.mpr ⟨gd_bV _ _ _ _, List.forall_mem_append.mpr ⟨gdX80, List.forall_mem_append.mpr ⟨gdX8_isGuard, List.forall_mem_append.mpr ⟨gdX8_in, List.forall_mem_append.mpr ⟨gdX8_kindIn, List.forall_mem_append.mpr ⟨gdX8_deafSize, List.forall_mem_append.mpr ⟨gdX8_keenSize, List.forall_mem_append.mpr ⟨gdX8_deafMark, List.forall_mem_append.mpr ⟨gdX8_keenMark, fun _ h => absurd h List.not_mem_nil⟩⟩⟩⟩⟩⟩⟩⟩⟩⟩⟩⟩⟩⟩⟩⟩⟩
def wsX8_trace_o : List Cond := ([Cond.fieldLink RX8 237 "WrongWordModel" "traced" "I", Cond.fieldLink RX8 47 "WrongWordModel" "trace" "[I", Cond.constant RX8 50 (-1000000)] : List Cond)
def wsX8_trace : List Cond := .code yX8_trace cX8_trace 2 (some .int) :: (wsX8_trace_o ++ ((bkS RX8 56 yX8_in) ++ (wsX80 ++ (wsX8_in ++ ([] : List Cond)))))
theorem itX8_trace_o : ∀ w ∈ wsX8_trace_o, w ∈ lw_tbl := List.forall_mem_cons.mpr ⟨tw_859, List.forall_mem_cons.mpr ⟨tw_858, List.forall_mem_cons.mpr ⟨tw_836, fun _ h => absurd h List.not_mem_nil⟩⟩⟩
theorem itX8_trace : ∀ w ∈ wsX8_trace, w ∈ lw_tbl := List.forall_mem_cons.mpr ⟨tw_1250, List.forall_mem_append.mpr ⟨itX8_trace_o, List.forall_mem_append.mpr ⟨it_b93, List.forall_mem_append.mpr ⟨itX80, List.forall_mem_append.mpr ⟨itX8_in, fun _ h => absurd h List.not_mem_nil⟩⟩⟩⟩⟩
set_option maxRecDepth 100000 in
theorem gdX8_trace_o : ∀ w ∈ wsX8_trace_o, goodWord w = true := gd_o (by decide +kernel)
set_option maxRecDepth 100000 in
theorem gdX8_trace : ∀ w ∈ wsX8_trace, goodWord w = true := List.forall_mem_cons.mpr ⟨by decide +kernel, List.forall_mem_append.mpr ⟨gdX8_trace_o, List.forall_mem_append.mpr ⟨gd_bS _ _ _, List.forall_mem_append.mpr ⟨gdX80, List.forall_mem_append.mpr ⟨gdX8_in, fun _ h => absurd h List.not_mem_nil⟩⟩⟩⟩⟩
def wsX8_count_o : List Cond := ([Cond.fieldLink RX8 25 "WrongWordModel" "now" "[I", Cond.fieldLink RX8 149 "WrongWordModel" "acts" "I", Cond.fieldLink RX8 82 "WrongWordModel" "taped" "I", Cond.constant RX8 64 (-1000001), Cond.fieldLink RX8 7 "WrongWordModel" "lane" "[I", Cond.constant RX8 50 (-1000000)] : List Cond)
def wsX8_count : List Cond := .code yX8_count cX8_count 4 (some .int) :: (wsX8_count_o ++ ((bkV RX8 72 RX8 yX8_isMissing) ++ (wsX80 ++ (wsX8_isMissing ++ ([] : List Cond)))))
theorem itX8_count_o : ∀ w ∈ wsX8_count_o, w ∈ lw_tbl := List.forall_mem_cons.mpr ⟨tw_850, List.forall_mem_cons.mpr ⟨tw_854, List.forall_mem_cons.mpr ⟨tw_843, List.forall_mem_cons.mpr ⟨tw_918, List.forall_mem_cons.mpr ⟨tw_837, List.forall_mem_cons.mpr ⟨tw_836, fun _ h => absurd h List.not_mem_nil⟩⟩⟩⟩⟩⟩
theorem itX8_count : ∀ w ∈ wsX8_count, w ∈ lw_tbl := List.forall_mem_cons.mpr ⟨tw_1254, List.forall_mem_append.mpr ⟨itX8_count_o, List.forall_mem_append.mpr ⟨it_b97, List.forall_mem_append.mpr ⟨itX80, List.forall_mem_append.mpr ⟨itX8_isMissing, fun _ h => absurd h List.not_mem_nil⟩⟩⟩⟩⟩
set_option maxRecDepth 100000 in
theorem gdX8_count_o : ∀ w ∈ wsX8_count_o, goodWord w = true := gd_o (by decide +kernel)
set_option maxRecDepth 100000 in
theorem gdX8_count : ∀ w ∈ wsX8_count, goodWord w = true := List.forall_mem_cons.mpr ⟨by decide +kernel, List.forall_mem_append.mpr ⟨gdX8_count_o, List.forall_mem_append.mpr ⟨gd_bV _ _ _ _, List.forall_mem_append.mpr ⟨gdX80, List.forall_mem_append.mpr ⟨gdX8_isMissing, fun _ h => absurd h List.not_mem_nil⟩⟩⟩⟩⟩
def wsX8_status_o : List Cond := ([Cond.fieldLink RX8 51 "WrongWordModel" "status" "I"] : List Cond)
def wsX8_status : List Cond := .code yX8_status cX8_status 1 (some .int) :: (wsX8_status_o ++ (wsX80 ++ ([] : List Cond)))
theorem itX8_status_o : ∀ w ∈ wsX8_status_o, w ∈ lw_tbl := List.forall_mem_cons.mpr ⟨tw_841, fun _ h => absurd h List.not_mem_nil⟩
theorem itX8_status : ∀ w ∈ wsX8_status, w ∈ lw_tbl := List.forall_mem_cons.mpr ⟨tw_1258, List.forall_mem_append.mpr ⟨itX8_status_o, List.forall_mem_append.mpr ⟨itX80, fun _ h => absurd h List.not_mem_nil⟩⟩⟩
set_option maxRecDepth 100000 in
theorem gdX8_status_o : ∀ w ∈ wsX8_status_o, goodWord w = true := gd_o (by decide +kernel)
set_option maxRecDepth 100000 in
theorem gdX8_status : ∀ w ∈ wsX8_status, goodWord w = true := List.forall_mem_cons.mpr ⟨by decide +kernel, List.forall_mem_append.mpr ⟨gdX8_status_o, List.forall_mem_append.mpr ⟨gdX80, fun _ h => absurd h List.not_mem_nil⟩⟩⟩
def wsJ9_max_7cf53_o : List Cond := ([] : List Cond)
def wsJ9_max_7cf53 : List Cond := .code yJ9_max_7cf53 cJ9_max_7cf53 2 (some .int) :: (wsJ9_max_7cf53_o ++ ([] : List Cond))
theorem itJ9_max_7cf53_o : ∀ w ∈ wsJ9_max_7cf53_o, w ∈ lw_tbl := fun _ h => absurd h List.not_mem_nil
theorem itJ9_max_7cf53 : ∀ w ∈ wsJ9_max_7cf53, w ∈ lw_tbl := List.forall_mem_cons.mpr ⟨tw_664, List.forall_mem_append.mpr ⟨itJ9_max_7cf53_o, fun _ h => absurd h List.not_mem_nil⟩⟩
set_option maxRecDepth 100000 in
theorem gdJ9_max_7cf53_o : ∀ w ∈ wsJ9_max_7cf53_o, goodWord w = true := gd_o (by decide +kernel)
set_option maxRecDepth 100000 in
theorem gdJ9_max_7cf53 : ∀ w ∈ wsJ9_max_7cf53, goodWord w = true := List.forall_mem_cons.mpr ⟨by decide +kernel, List.forall_mem_append.mpr ⟨gdJ9_max_7cf53_o, fun _ h => absurd h List.not_mem_nil⟩⟩
def wsJ9_min_7cf53_o : List Cond := ([] : List Cond)
def wsJ9_min_7cf53 : List Cond := .code yJ9_min_7cf53 cJ9_min_7cf53 2 (some .int) :: (wsJ9_min_7cf53_o ++ ([] : List Cond))
theorem itJ9_min_7cf53_o : ∀ w ∈ wsJ9_min_7cf53_o, w ∈ lw_tbl := fun _ h => absurd h List.not_mem_nil
theorem itJ9_min_7cf53 : ∀ w ∈ wsJ9_min_7cf53, w ∈ lw_tbl := List.forall_mem_cons.mpr ⟨tw_479, List.forall_mem_append.mpr ⟨itJ9_min_7cf53_o, fun _ h => absurd h List.not_mem_nil⟩⟩
set_option maxRecDepth 100000 in
theorem gdJ9_min_7cf53_o : ∀ w ∈ wsJ9_min_7cf53_o, goodWord w = true := gd_o (by decide +kernel)
set_option maxRecDepth 100000 in
theorem gdJ9_min_7cf53 : ∀ w ∈ wsJ9_min_7cf53, goodWord w = true := List.forall_mem_cons.mpr ⟨by decide +kernel, List.forall_mem_append.mpr ⟨gdJ9_min_7cf53_o, fun _ h => absurd h List.not_mem_nil⟩⟩
theorem ggX0_init_X4_init : GoodIn wsX0_init wsX4_init := fun w h => ⟨List.mem_cons_of_mem _ (List.mem_append_right _ (List.mem_append_right _ (List.mem_append_right _ (List.mem_append_left _ h)))), good_of_word (gdX4_init w h)⟩
set_option maxRecDepth 20000 in
theorem gX0_init_X4_init_n17 : GoodIn wsX0_init (wsX4_init) := ggX0_init_X4_init
def tb_X0_init_1 : List (Nat × Instr × Nat) := [(0, .aload_n 0, 1), (1, .invokespecial 3, 3), (4, .aload_n 0, 1), (5, .bipush 24, 2), (7, .anewarray 9, 3), (10, .putfield 11, 3), (13, .iconst 0, 1), (14, .istore_n 1, 1), (15, .iload_n 1, 1), (16, .bipush 24, 2), (18, .if_icmp .ge 22, 3), (21, .aload_n 0, 1), (22, .getfield 11, 3), (25, .iload_n 1, 1), (26, .new 9, 3), (29, .dup, 1), (30, .invokespecial 17, 3), (33, .aastore, 1), (34, .iinc 1 1, 3), (37, .goto (-22), 3), (40, .return_, 1)]
set_option maxRecDepth 100000 in
theorem tk_X0_init_1 : (tb_X0_init_1.all fun q => decide (decode cX0_init q.1 = .ok q.2)) = true := by decide +kernel
theorem dX0_init_0 : decode cX0_init 0 = .ok (.aload_n 0, 1) := tb_d tk_X0_init_1 0 (0, .aload_n 0, 1) rfl
theorem dX0_init_1 : decode cX0_init 1 = .ok (.invokespecial 3, 3) := tb_d tk_X0_init_1 1 (1, .invokespecial 3, 3) rfl
theorem dX0_init_4 : decode cX0_init 4 = .ok (.aload_n 0, 1) := tb_d tk_X0_init_1 2 (4, .aload_n 0, 1) rfl
theorem dX0_init_5 : decode cX0_init 5 = .ok (.bipush 24, 2) := tb_d tk_X0_init_1 3 (5, .bipush 24, 2) rfl
theorem dX0_init_7 : decode cX0_init 7 = .ok (.anewarray 9, 3) := tb_d tk_X0_init_1 4 (7, .anewarray 9, 3) rfl
theorem dX0_init_10 : decode cX0_init 10 = .ok (.putfield 11, 3) := tb_d tk_X0_init_1 5 (10, .putfield 11, 3) rfl
theorem dX0_init_13 : decode cX0_init 13 = .ok (.iconst 0, 1) := tb_d tk_X0_init_1 6 (13, .iconst 0, 1) rfl
theorem dX0_init_14 : decode cX0_init 14 = .ok (.istore_n 1, 1) := tb_d tk_X0_init_1 7 (14, .istore_n 1, 1) rfl
theorem dX0_init_15 : decode cX0_init 15 = .ok (.iload_n 1, 1) := tb_d tk_X0_init_1 8 (15, .iload_n 1, 1) rfl
theorem dX0_init_16 : decode cX0_init 16 = .ok (.bipush 24, 2) := tb_d tk_X0_init_1 9 (16, .bipush 24, 2) rfl
theorem dX0_init_18 : decode cX0_init 18 = .ok (.if_icmp .ge 22, 3) := tb_d tk_X0_init_1 10 (18, .if_icmp .ge 22, 3) rfl
theorem dX0_init_21 : decode cX0_init 21 = .ok (.aload_n 0, 1) := tb_d tk_X0_init_1 11 (21, .aload_n 0, 1) rfl
theorem dX0_init_22 : decode cX0_init 22 = .ok (.getfield 11, 3) := tb_d tk_X0_init_1 12 (22, .getfield 11, 3) rfl
theorem dX0_init_25 : decode cX0_init 25 = .ok (.iload_n 1, 1) := tb_d tk_X0_init_1 13 (25, .iload_n 1, 1) rfl
theorem dX0_init_26 : decode cX0_init 26 = .ok (.new 9, 3) := tb_d tk_X0_init_1 14 (26, .new 9, 3) rfl
theorem dX0_init_29 : decode cX0_init 29 = .ok (.dup, 1) := tb_d tk_X0_init_1 15 (29, .dup, 1) rfl
theorem dX0_init_30 : decode cX0_init 30 = .ok (.invokespecial 17, 3) := tb_d tk_X0_init_1 16 (30, .invokespecial 17, 3) rfl
theorem dX0_init_33 : decode cX0_init 33 = .ok (.aastore, 1) := tb_d tk_X0_init_1 17 (33, .aastore, 1) rfl
theorem dX0_init_34 : decode cX0_init 34 = .ok (.iinc 1 1, 3) := tb_d tk_X0_init_1 18 (34, .iinc 1 1, 3) rfl
theorem dX0_init_37 : decode cX0_init 37 = .ok (.goto (-22), 3) := tb_d tk_X0_init_1 19 (37, .goto (-22), 3) rfl
theorem dX0_init_40 : decode cX0_init 40 = .ok (.return_, 1) := tb_d tk_X0_init_1 20 (40, .return_, 1) rfl
def tb_X0_forget_1 : List (Nat × Instr × Nat) := [(0, .aload_n 0, 1), (1, .iconst 0, 1), (2, .putfield 18, 3), (5, .return_, 1)]
set_option maxRecDepth 100000 in
theorem tk_X0_forget_1 : (tb_X0_forget_1.all fun q => decide (decode cX0_forget q.1 = .ok q.2)) = true := by decide +kernel
theorem dX0_forget_0 : decode cX0_forget 0 = .ok (.aload_n 0, 1) := tb_d tk_X0_forget_1 0 (0, .aload_n 0, 1) rfl
theorem dX0_forget_1 : decode cX0_forget 1 = .ok (.iconst 0, 1) := tb_d tk_X0_forget_1 1 (1, .iconst 0, 1) rfl
theorem dX0_forget_2 : decode cX0_forget 2 = .ok (.putfield 18, 3) := tb_d tk_X0_forget_1 2 (2, .putfield 18, 3) rfl
theorem dX0_forget_5 : decode cX0_forget 5 = .ok (.return_, 1) := tb_d tk_X0_forget_1 3 (5, .return_, 1) rfl
theorem ggX0_keep_X4_become : GoodIn wsX0_keep wsX4_become := fun w h => ⟨List.mem_cons_of_mem _ (List.mem_append_right _ (List.mem_append_right _ (List.mem_append_right _ (List.mem_append_right _ (List.mem_append_left _ h))))), good_of_word (gdX4_become w h)⟩
set_option maxRecDepth 20000 in
theorem gX0_keep_X4_become : GoodIn wsX0_keep (wsV RX0 25 RX4 yX4_become wsX4_become) := goodIn_app (a := bkV RX0 25 RX4 yX4_become) (fun w h => ⟨List.mem_cons_of_mem _ (List.mem_append_right _ (List.mem_append_left _ h)), good_of_word (gd_bV _ _ _ _ w h)⟩) ggX0_keep_X4_become
def tb_X0_keep_1 : List (Nat × Instr × Nat) := [(0, .aload_n 0, 1), (1, .getfield 11, 3), (4, .aload_n 0, 1), (5, .getfield 22, 3), (8, .aaload, 1), (9, .aload_n 1, 1), (10, .invokevirtual 25, 3), (13, .aload_n 0, 1), (14, .aload_n 0, 1), (15, .getfield 22, 3), (18, .iconst 1, 1), (19, .iadd, 1), (20, .bipush 24, 2), (22, .if_icmp .ge 12, 3), (25, .aload_n 0, 1), (26, .getfield 22, 3), (29, .iconst 1, 1), (30, .iadd, 1), (31, .goto 4, 3), (34, .iconst 0, 1), (35, .putfield 22, 3), (38, .aload_n 0, 1), (39, .aload_n 0, 1), (40, .getfield 18, 3), (43, .iconst 1, 1), (44, .iadd, 1), (45, .bipush 24, 2), (47, .invokestatic 29, 3), (50, .putfield 18, 3), (53, .return_, 1)]
set_option maxRecDepth 100000 in
theorem tk_X0_keep_1 : (tb_X0_keep_1.all fun q => decide (decode cX0_keep q.1 = .ok q.2)) = true := by decide +kernel
theorem dX0_keep_0 : decode cX0_keep 0 = .ok (.aload_n 0, 1) := tb_d tk_X0_keep_1 0 (0, .aload_n 0, 1) rfl
theorem dX0_keep_1 : decode cX0_keep 1 = .ok (.getfield 11, 3) := tb_d tk_X0_keep_1 1 (1, .getfield 11, 3) rfl
theorem dX0_keep_4 : decode cX0_keep 4 = .ok (.aload_n 0, 1) := tb_d tk_X0_keep_1 2 (4, .aload_n 0, 1) rfl
theorem dX0_keep_5 : decode cX0_keep 5 = .ok (.getfield 22, 3) := tb_d tk_X0_keep_1 3 (5, .getfield 22, 3) rfl
theorem dX0_keep_8 : decode cX0_keep 8 = .ok (.aaload, 1) := tb_d tk_X0_keep_1 4 (8, .aaload, 1) rfl
theorem dX0_keep_9 : decode cX0_keep 9 = .ok (.aload_n 1, 1) := tb_d tk_X0_keep_1 5 (9, .aload_n 1, 1) rfl
theorem dX0_keep_10 : decode cX0_keep 10 = .ok (.invokevirtual 25, 3) := tb_d tk_X0_keep_1 6 (10, .invokevirtual 25, 3) rfl
theorem dX0_keep_13 : decode cX0_keep 13 = .ok (.aload_n 0, 1) := tb_d tk_X0_keep_1 7 (13, .aload_n 0, 1) rfl
theorem dX0_keep_14 : decode cX0_keep 14 = .ok (.aload_n 0, 1) := tb_d tk_X0_keep_1 8 (14, .aload_n 0, 1) rfl
theorem dX0_keep_15 : decode cX0_keep 15 = .ok (.getfield 22, 3) := tb_d tk_X0_keep_1 9 (15, .getfield 22, 3) rfl
theorem dX0_keep_18 : decode cX0_keep 18 = .ok (.iconst 1, 1) := tb_d tk_X0_keep_1 10 (18, .iconst 1, 1) rfl
theorem dX0_keep_19 : decode cX0_keep 19 = .ok (.iadd, 1) := tb_d tk_X0_keep_1 11 (19, .iadd, 1) rfl
theorem dX0_keep_20 : decode cX0_keep 20 = .ok (.bipush 24, 2) := tb_d tk_X0_keep_1 12 (20, .bipush 24, 2) rfl
theorem dX0_keep_22 : decode cX0_keep 22 = .ok (.if_icmp .ge 12, 3) := tb_d tk_X0_keep_1 13 (22, .if_icmp .ge 12, 3) rfl
theorem dX0_keep_25 : decode cX0_keep 25 = .ok (.aload_n 0, 1) := tb_d tk_X0_keep_1 14 (25, .aload_n 0, 1) rfl
theorem dX0_keep_26 : decode cX0_keep 26 = .ok (.getfield 22, 3) := tb_d tk_X0_keep_1 15 (26, .getfield 22, 3) rfl
theorem dX0_keep_29 : decode cX0_keep 29 = .ok (.iconst 1, 1) := tb_d tk_X0_keep_1 16 (29, .iconst 1, 1) rfl
theorem dX0_keep_30 : decode cX0_keep 30 = .ok (.iadd, 1) := tb_d tk_X0_keep_1 17 (30, .iadd, 1) rfl
theorem dX0_keep_31 : decode cX0_keep 31 = .ok (.goto 4, 3) := tb_d tk_X0_keep_1 18 (31, .goto 4, 3) rfl
theorem dX0_keep_34 : decode cX0_keep 34 = .ok (.iconst 0, 1) := tb_d tk_X0_keep_1 19 (34, .iconst 0, 1) rfl
theorem dX0_keep_35 : decode cX0_keep 35 = .ok (.putfield 22, 3) := tb_d tk_X0_keep_1 20 (35, .putfield 22, 3) rfl
theorem dX0_keep_38 : decode cX0_keep 38 = .ok (.aload_n 0, 1) := tb_d tk_X0_keep_1 21 (38, .aload_n 0, 1) rfl
theorem dX0_keep_39 : decode cX0_keep 39 = .ok (.aload_n 0, 1) := tb_d tk_X0_keep_1 22 (39, .aload_n 0, 1) rfl
theorem dX0_keep_40 : decode cX0_keep 40 = .ok (.getfield 18, 3) := tb_d tk_X0_keep_1 23 (40, .getfield 18, 3) rfl
theorem dX0_keep_43 : decode cX0_keep 43 = .ok (.iconst 1, 1) := tb_d tk_X0_keep_1 24 (43, .iconst 1, 1) rfl
theorem dX0_keep_44 : decode cX0_keep 44 = .ok (.iadd, 1) := tb_d tk_X0_keep_1 25 (44, .iadd, 1) rfl
theorem dX0_keep_45 : decode cX0_keep 45 = .ok (.bipush 24, 2) := tb_d tk_X0_keep_1 26 (45, .bipush 24, 2) rfl
theorem dX0_keep_47 : decode cX0_keep 47 = .ok (.invokestatic 29, 3) := tb_d tk_X0_keep_1 27 (47, .invokestatic 29, 3) rfl
theorem dX0_keep_50 : decode cX0_keep 50 = .ok (.putfield 18, 3) := tb_d tk_X0_keep_1 28 (50, .putfield 18, 3) rfl
theorem dX0_keep_53 : decode cX0_keep 53 = .ok (.return_, 1) := tb_d tk_X0_keep_1 29 (53, .return_, 1) rfl
theorem ggX0_takeBack_X4_become : GoodIn wsX0_takeBack wsX4_become := fun w h => ⟨List.mem_cons_of_mem _ (List.mem_append_right _ (List.mem_append_right _ (List.mem_append_right _ (List.mem_append_right _ (List.mem_append_left _ h))))), good_of_word (gdX4_become w h)⟩
set_option maxRecDepth 20000 in
theorem gX0_takeBack_X4_become : GoodIn wsX0_takeBack (wsV RX0 25 RX4 yX4_become wsX4_become) := goodIn_app (a := bkV RX0 25 RX4 yX4_become) (fun w h => ⟨List.mem_cons_of_mem _ (List.mem_append_right _ (List.mem_append_left _ h)), good_of_word (gd_bV _ _ _ _ w h)⟩) ggX0_takeBack_X4_become
def tb_X0_takeBack_1 : List (Nat × Instr × Nat) := [(0, .aload_n 0, 1), (1, .getfield 18, 3), (4, .ifCond .ne 5, 3), (7, .iconst 0, 1), (8, .ireturn, 1), (9, .aload_n 0, 1), (10, .aload_n 0, 1), (11, .getfield 22, 3), (14, .ifCond .le 12, 3), (17, .aload_n 0, 1), (18, .getfield 22, 3), (21, .iconst 1, 1), (22, .isub, 1), (23, .goto 5, 3), (26, .bipush 23, 2), (28, .putfield 22, 3), (31, .aload_n 0, 1), (32, .dup, 1), (33, .getfield 18, 3), (36, .iconst 1, 1), (37, .isub, 1), (38, .putfield 18, 3), (41, .aload_n 1, 1), (42, .aload_n 0, 1), (43, .getfield 11, 3), (46, .aload_n 0, 1), (47, .getfield 22, 3), (50, .aaload, 1), (51, .invokevirtual 25, 3), (54, .iconst 1, 1), (55, .ireturn, 1)]
set_option maxRecDepth 100000 in
theorem tk_X0_takeBack_1 : (tb_X0_takeBack_1.all fun q => decide (decode cX0_takeBack q.1 = .ok q.2)) = true := by decide +kernel
theorem dX0_takeBack_0 : decode cX0_takeBack 0 = .ok (.aload_n 0, 1) := tb_d tk_X0_takeBack_1 0 (0, .aload_n 0, 1) rfl
theorem dX0_takeBack_1 : decode cX0_takeBack 1 = .ok (.getfield 18, 3) := tb_d tk_X0_takeBack_1 1 (1, .getfield 18, 3) rfl
theorem dX0_takeBack_4 : decode cX0_takeBack 4 = .ok (.ifCond .ne 5, 3) := tb_d tk_X0_takeBack_1 2 (4, .ifCond .ne 5, 3) rfl
theorem dX0_takeBack_7 : decode cX0_takeBack 7 = .ok (.iconst 0, 1) := tb_d tk_X0_takeBack_1 3 (7, .iconst 0, 1) rfl
theorem dX0_takeBack_8 : decode cX0_takeBack 8 = .ok (.ireturn, 1) := tb_d tk_X0_takeBack_1 4 (8, .ireturn, 1) rfl
theorem dX0_takeBack_9 : decode cX0_takeBack 9 = .ok (.aload_n 0, 1) := tb_d tk_X0_takeBack_1 5 (9, .aload_n 0, 1) rfl
theorem dX0_takeBack_10 : decode cX0_takeBack 10 = .ok (.aload_n 0, 1) := tb_d tk_X0_takeBack_1 6 (10, .aload_n 0, 1) rfl
theorem dX0_takeBack_11 : decode cX0_takeBack 11 = .ok (.getfield 22, 3) := tb_d tk_X0_takeBack_1 7 (11, .getfield 22, 3) rfl
theorem dX0_takeBack_14 : decode cX0_takeBack 14 = .ok (.ifCond .le 12, 3) := tb_d tk_X0_takeBack_1 8 (14, .ifCond .le 12, 3) rfl
theorem dX0_takeBack_17 : decode cX0_takeBack 17 = .ok (.aload_n 0, 1) := tb_d tk_X0_takeBack_1 9 (17, .aload_n 0, 1) rfl
theorem dX0_takeBack_18 : decode cX0_takeBack 18 = .ok (.getfield 22, 3) := tb_d tk_X0_takeBack_1 10 (18, .getfield 22, 3) rfl
theorem dX0_takeBack_21 : decode cX0_takeBack 21 = .ok (.iconst 1, 1) := tb_d tk_X0_takeBack_1 11 (21, .iconst 1, 1) rfl
theorem dX0_takeBack_22 : decode cX0_takeBack 22 = .ok (.isub, 1) := tb_d tk_X0_takeBack_1 12 (22, .isub, 1) rfl
theorem dX0_takeBack_23 : decode cX0_takeBack 23 = .ok (.goto 5, 3) := tb_d tk_X0_takeBack_1 13 (23, .goto 5, 3) rfl
theorem dX0_takeBack_26 : decode cX0_takeBack 26 = .ok (.bipush 23, 2) := tb_d tk_X0_takeBack_1 14 (26, .bipush 23, 2) rfl
theorem dX0_takeBack_28 : decode cX0_takeBack 28 = .ok (.putfield 22, 3) := tb_d tk_X0_takeBack_1 15 (28, .putfield 22, 3) rfl
theorem dX0_takeBack_31 : decode cX0_takeBack 31 = .ok (.aload_n 0, 1) := tb_d tk_X0_takeBack_1 16 (31, .aload_n 0, 1) rfl
theorem dX0_takeBack_32 : decode cX0_takeBack 32 = .ok (.dup, 1) := tb_d tk_X0_takeBack_1 17 (32, .dup, 1) rfl
theorem dX0_takeBack_33 : decode cX0_takeBack 33 = .ok (.getfield 18, 3) := tb_d tk_X0_takeBack_1 18 (33, .getfield 18, 3) rfl
theorem dX0_takeBack_36 : decode cX0_takeBack 36 = .ok (.iconst 1, 1) := tb_d tk_X0_takeBack_1 19 (36, .iconst 1, 1) rfl
theorem dX0_takeBack_37 : decode cX0_takeBack 37 = .ok (.isub, 1) := tb_d tk_X0_takeBack_1 20 (37, .isub, 1) rfl
theorem dX0_takeBack_38 : decode cX0_takeBack 38 = .ok (.putfield 18, 3) := tb_d tk_X0_takeBack_1 21 (38, .putfield 18, 3) rfl
theorem dX0_takeBack_41 : decode cX0_takeBack 41 = .ok (.aload_n 1, 1) := tb_d tk_X0_takeBack_1 22 (41, .aload_n 1, 1) rfl
theorem dX0_takeBack_42 : decode cX0_takeBack 42 = .ok (.aload_n 0, 1) := tb_d tk_X0_takeBack_1 23 (42, .aload_n 0, 1) rfl
theorem dX0_takeBack_43 : decode cX0_takeBack 43 = .ok (.getfield 11, 3) := tb_d tk_X0_takeBack_1 24 (43, .getfield 11, 3) rfl
theorem dX0_takeBack_46 : decode cX0_takeBack 46 = .ok (.aload_n 0, 1) := tb_d tk_X0_takeBack_1 25 (46, .aload_n 0, 1) rfl
theorem dX0_takeBack_47 : decode cX0_takeBack 47 = .ok (.getfield 22, 3) := tb_d tk_X0_takeBack_1 26 (47, .getfield 22, 3) rfl
theorem dX0_takeBack_50 : decode cX0_takeBack 50 = .ok (.aaload, 1) := tb_d tk_X0_takeBack_1 27 (50, .aaload, 1) rfl
theorem dX0_takeBack_51 : decode cX0_takeBack 51 = .ok (.invokevirtual 25, 3) := tb_d tk_X0_takeBack_1 28 (51, .invokevirtual 25, 3) rfl
theorem dX0_takeBack_54 : decode cX0_takeBack 54 = .ok (.iconst 1, 1) := tb_d tk_X0_takeBack_1 29 (54, .iconst 1, 1) rfl
theorem dX0_takeBack_55 : decode cX0_takeBack 55 = .ok (.ireturn, 1) := tb_d tk_X0_takeBack_1 30 (55, .ireturn, 1) rfl
def tb_X1_init_1 : List (Nat × Instr × Nat) := [(0, .aload_n 0, 1), (1, .invokespecial 3, 3), (4, .aload_n 0, 1), (5, .bipush 16, 2), (7, .newarray .int, 2), (9, .putfield 11, 3), (12, .return_, 1)]
set_option maxRecDepth 100000 in
theorem tk_X1_init_1 : (tb_X1_init_1.all fun q => decide (decode cX1_init q.1 = .ok q.2)) = true := by decide +kernel
theorem dX1_init_0 : decode cX1_init 0 = .ok (.aload_n 0, 1) := tb_d tk_X1_init_1 0 (0, .aload_n 0, 1) rfl
theorem dX1_init_1 : decode cX1_init 1 = .ok (.invokespecial 3, 3) := tb_d tk_X1_init_1 1 (1, .invokespecial 3, 3) rfl
theorem dX1_init_4 : decode cX1_init 4 = .ok (.aload_n 0, 1) := tb_d tk_X1_init_1 2 (4, .aload_n 0, 1) rfl
theorem dX1_init_5 : decode cX1_init 5 = .ok (.bipush 16, 2) := tb_d tk_X1_init_1 3 (5, .bipush 16, 2) rfl
theorem dX1_init_7 : decode cX1_init 7 = .ok (.newarray .int, 2) := tb_d tk_X1_init_1 4 (7, .newarray .int, 2) rfl
theorem dX1_init_9 : decode cX1_init 9 = .ok (.putfield 11, 3) := tb_d tk_X1_init_1 5 (9, .putfield 11, 3) rfl
theorem dX1_init_12 : decode cX1_init 12 = .ok (.return_, 1) := tb_d tk_X1_init_1 6 (12, .return_, 1) rfl
def tb_X1_isA_1 : List (Nat × Instr × Nat) := [(0, .iload_n 0, 1), (1, .istore_n 2, 1), (2, .iconst 0, 1), (3, .istore_n 3, 1), (4, .iload_n 3, 1), (5, .iconst 5, 1), (6, .if_icmp .gt 31, 3), (9, .iload_n 2, 1), (10, .ifCond .lt 27, 3), (13, .iload_n 2, 1), (14, .iconst 5, 1), (15, .if_icmp .gt 22, 3), (18, .iload_n 2, 1), (19, .iload_n 1, 1), (20, .if_icmp .ne 5, 3), (23, .iconst 1, 1), (24, .ireturn, 1), (25, .getstatic 15, 3), (28, .iload_n 2, 1), (29, .iaload, 1), (30, .istore_n 2, 1), (31, .iinc 3 1, 3), (34, .goto (-30), 3), (37, .iconst 0, 1), (38, .ireturn, 1)]
set_option maxRecDepth 100000 in
theorem tk_X1_isA_1 : (tb_X1_isA_1.all fun q => decide (decode cX1_isA q.1 = .ok q.2)) = true := by decide +kernel
theorem dX1_isA_0 : decode cX1_isA 0 = .ok (.iload_n 0, 1) := tb_d tk_X1_isA_1 0 (0, .iload_n 0, 1) rfl
theorem dX1_isA_1 : decode cX1_isA 1 = .ok (.istore_n 2, 1) := tb_d tk_X1_isA_1 1 (1, .istore_n 2, 1) rfl
theorem dX1_isA_2 : decode cX1_isA 2 = .ok (.iconst 0, 1) := tb_d tk_X1_isA_1 2 (2, .iconst 0, 1) rfl
theorem dX1_isA_3 : decode cX1_isA 3 = .ok (.istore_n 3, 1) := tb_d tk_X1_isA_1 3 (3, .istore_n 3, 1) rfl
theorem dX1_isA_4 : decode cX1_isA 4 = .ok (.iload_n 3, 1) := tb_d tk_X1_isA_1 4 (4, .iload_n 3, 1) rfl
theorem dX1_isA_5 : decode cX1_isA 5 = .ok (.iconst 5, 1) := tb_d tk_X1_isA_1 5 (5, .iconst 5, 1) rfl
theorem dX1_isA_6 : decode cX1_isA 6 = .ok (.if_icmp .gt 31, 3) := tb_d tk_X1_isA_1 6 (6, .if_icmp .gt 31, 3) rfl
theorem dX1_isA_9 : decode cX1_isA 9 = .ok (.iload_n 2, 1) := tb_d tk_X1_isA_1 7 (9, .iload_n 2, 1) rfl
theorem dX1_isA_10 : decode cX1_isA 10 = .ok (.ifCond .lt 27, 3) := tb_d tk_X1_isA_1 8 (10, .ifCond .lt 27, 3) rfl
theorem dX1_isA_13 : decode cX1_isA 13 = .ok (.iload_n 2, 1) := tb_d tk_X1_isA_1 9 (13, .iload_n 2, 1) rfl
theorem dX1_isA_14 : decode cX1_isA 14 = .ok (.iconst 5, 1) := tb_d tk_X1_isA_1 10 (14, .iconst 5, 1) rfl
theorem dX1_isA_15 : decode cX1_isA 15 = .ok (.if_icmp .gt 22, 3) := tb_d tk_X1_isA_1 11 (15, .if_icmp .gt 22, 3) rfl
theorem dX1_isA_18 : decode cX1_isA 18 = .ok (.iload_n 2, 1) := tb_d tk_X1_isA_1 12 (18, .iload_n 2, 1) rfl
theorem dX1_isA_19 : decode cX1_isA 19 = .ok (.iload_n 1, 1) := tb_d tk_X1_isA_1 13 (19, .iload_n 1, 1) rfl
theorem dX1_isA_20 : decode cX1_isA 20 = .ok (.if_icmp .ne 5, 3) := tb_d tk_X1_isA_1 14 (20, .if_icmp .ne 5, 3) rfl
theorem dX1_isA_23 : decode cX1_isA 23 = .ok (.iconst 1, 1) := tb_d tk_X1_isA_1 15 (23, .iconst 1, 1) rfl
theorem dX1_isA_24 : decode cX1_isA 24 = .ok (.ireturn, 1) := tb_d tk_X1_isA_1 16 (24, .ireturn, 1) rfl
theorem dX1_isA_25 : decode cX1_isA 25 = .ok (.getstatic 15, 3) := tb_d tk_X1_isA_1 17 (25, .getstatic 15, 3) rfl
theorem dX1_isA_28 : decode cX1_isA 28 = .ok (.iload_n 2, 1) := tb_d tk_X1_isA_1 18 (28, .iload_n 2, 1) rfl
theorem dX1_isA_29 : decode cX1_isA 29 = .ok (.iaload, 1) := tb_d tk_X1_isA_1 19 (29, .iaload, 1) rfl
theorem dX1_isA_30 : decode cX1_isA 30 = .ok (.istore_n 2, 1) := tb_d tk_X1_isA_1 20 (30, .istore_n 2, 1) rfl
theorem dX1_isA_31 : decode cX1_isA 31 = .ok (.iinc 3 1, 3) := tb_d tk_X1_isA_1 21 (31, .iinc 3 1, 3) rfl
theorem dX1_isA_34 : decode cX1_isA 34 = .ok (.goto (-30), 3) := tb_d tk_X1_isA_1 22 (34, .goto (-30), 3) rfl
theorem dX1_isA_37 : decode cX1_isA 37 = .ok (.iconst 0, 1) := tb_d tk_X1_isA_1 23 (37, .iconst 0, 1) rfl
theorem dX1_isA_38 : decode cX1_isA 38 = .ok (.ireturn, 1) := tb_d tk_X1_isA_1 24 (38, .ireturn, 1) rfl
def tb_X1_turnTo_1 : List (Nat × Instr × Nat) := [(0, .aload_n 0, 1), (1, .iload_n 1, 1), (2, .putfield 18, 3), (5, .aload_n 0, 1), (6, .iload_n 2, 1), (7, .putfield 22, 3), (10, .aload_n 0, 1), (11, .iload_n 3, 1), (12, .putfield 25, 3), (15, .aload_n 0, 1), (16, .iload 4, 2), (18, .putfield 28, 3), (21, .aload_n 0, 1), (22, .iconst 0, 1), (23, .putfield 31, 3), (26, .return_, 1)]
set_option maxRecDepth 100000 in
theorem tk_X1_turnTo_1 : (tb_X1_turnTo_1.all fun q => decide (decode cX1_turnTo q.1 = .ok q.2)) = true := by decide +kernel
theorem dX1_turnTo_0 : decode cX1_turnTo 0 = .ok (.aload_n 0, 1) := tb_d tk_X1_turnTo_1 0 (0, .aload_n 0, 1) rfl
theorem dX1_turnTo_1 : decode cX1_turnTo 1 = .ok (.iload_n 1, 1) := tb_d tk_X1_turnTo_1 1 (1, .iload_n 1, 1) rfl
theorem dX1_turnTo_2 : decode cX1_turnTo 2 = .ok (.putfield 18, 3) := tb_d tk_X1_turnTo_1 2 (2, .putfield 18, 3) rfl
theorem dX1_turnTo_5 : decode cX1_turnTo 5 = .ok (.aload_n 0, 1) := tb_d tk_X1_turnTo_1 3 (5, .aload_n 0, 1) rfl
theorem dX1_turnTo_6 : decode cX1_turnTo 6 = .ok (.iload_n 2, 1) := tb_d tk_X1_turnTo_1 4 (6, .iload_n 2, 1) rfl
theorem dX1_turnTo_7 : decode cX1_turnTo 7 = .ok (.putfield 22, 3) := tb_d tk_X1_turnTo_1 5 (7, .putfield 22, 3) rfl
theorem dX1_turnTo_10 : decode cX1_turnTo 10 = .ok (.aload_n 0, 1) := tb_d tk_X1_turnTo_1 6 (10, .aload_n 0, 1) rfl
theorem dX1_turnTo_11 : decode cX1_turnTo 11 = .ok (.iload_n 3, 1) := tb_d tk_X1_turnTo_1 7 (11, .iload_n 3, 1) rfl
theorem dX1_turnTo_12 : decode cX1_turnTo 12 = .ok (.putfield 25, 3) := tb_d tk_X1_turnTo_1 8 (12, .putfield 25, 3) rfl
theorem dX1_turnTo_15 : decode cX1_turnTo 15 = .ok (.aload_n 0, 1) := tb_d tk_X1_turnTo_1 9 (15, .aload_n 0, 1) rfl
theorem dX1_turnTo_16 : decode cX1_turnTo 16 = .ok (.iload 4, 2) := tb_d tk_X1_turnTo_1 10 (16, .iload 4, 2) rfl
theorem dX1_turnTo_18 : decode cX1_turnTo 18 = .ok (.putfield 28, 3) := tb_d tk_X1_turnTo_1 11 (18, .putfield 28, 3) rfl
theorem dX1_turnTo_21 : decode cX1_turnTo 21 = .ok (.aload_n 0, 1) := tb_d tk_X1_turnTo_1 12 (21, .aload_n 0, 1) rfl
theorem dX1_turnTo_22 : decode cX1_turnTo 22 = .ok (.iconst 0, 1) := tb_d tk_X1_turnTo_1 13 (22, .iconst 0, 1) rfl
theorem dX1_turnTo_23 : decode cX1_turnTo 23 = .ok (.putfield 31, 3) := tb_d tk_X1_turnTo_1 14 (23, .putfield 31, 3) rfl
theorem dX1_turnTo_26 : decode cX1_turnTo 26 = .ok (.return_, 1) := tb_d tk_X1_turnTo_1 15 (26, .return_, 1) rfl
theorem ggX1_answer_X1_sizeBody : GoodIn wsX1_answer wsX1_sizeBody := fun w h => ⟨List.mem_cons_of_mem _ (List.mem_append_right _ (List.mem_append_right _ (List.mem_append_right _ (List.mem_append_right _ (List.mem_append_right _ (List.mem_append_left _ h)))))), good_of_word (gdX1_sizeBody w h)⟩
set_option maxRecDepth 20000 in
theorem gX1_answer_X1_sizeBody : GoodIn wsX1_answer (wsV RX1 34 RX1 yX1_sizeBody wsX1_sizeBody) := goodIn_app (a := bkV RX1 34 RX1 yX1_sizeBody) (fun w h => ⟨List.mem_cons_of_mem _ (List.mem_append_right _ (List.mem_append_left _ h)), good_of_word (gd_bV _ _ _ _ w h)⟩) ggX1_answer_X1_sizeBody
theorem ggX1_answer_X1_markBody : GoodIn wsX1_answer wsX1_markBody := fun w h => ⟨List.mem_cons_of_mem _ (List.mem_append_right _ (List.mem_append_right _ (List.mem_append_right _ (List.mem_append_right _ (List.mem_append_right _ (List.mem_append_right _ (List.mem_append_left _ h))))))), good_of_word (gdX1_markBody w h)⟩
set_option maxRecDepth 20000 in
theorem gX1_answer_X1_markBody : GoodIn wsX1_answer (wsV RX1 38 RX1 yX1_markBody wsX1_markBody) := goodIn_app (a := bkV RX1 38 RX1 yX1_markBody) (fun w h => ⟨List.mem_cons_of_mem _ (List.mem_append_right _ (List.mem_append_right _ (List.mem_append_left _ h))), good_of_word (gd_bV _ _ _ _ w h)⟩) ggX1_answer_X1_markBody
theorem ggX1_answer_X1_given : GoodIn wsX1_answer wsX1_given := fun w h => ⟨List.mem_cons_of_mem _ (List.mem_append_right _ (List.mem_append_right _ (List.mem_append_right _ (List.mem_append_right _ (List.mem_append_right _ (List.mem_append_right _ (List.mem_append_right _ (List.mem_append_left _ h)))))))), good_of_word (gdX1_given w h)⟩
set_option maxRecDepth 20000 in
theorem gX1_answer_X1_given : GoodIn wsX1_answer (va_wsS RX1 41 yX1_given wsX1_given) := goodIn_app (a := bkS RX1 41 yX1_given) (fun w h => ⟨List.mem_cons_of_mem _ (List.mem_append_right _ (List.mem_append_right _ (List.mem_append_right _ (List.mem_append_left _ h)))), good_of_word (gd_bS _ _ _ w h)⟩) ggX1_answer_X1_given
def tb_X1_answer_1 : List (Nat × Instr × Nat) := [(0, .aload_n 0, 1), (1, .iload_n 1, 1), (2, .ifCond .ne 10, 3), (5, .aload_n 0, 1), (6, .invokevirtual 34, 3), (9, .goto 7, 3), (12, .aload_n 0, 1), (13, .invokevirtual 38, 3), (16, .iconst 0, 1), (17, .invokestatic 41, 3), (20, .ireturn, 1)]
set_option maxRecDepth 100000 in
theorem tk_X1_answer_1 : (tb_X1_answer_1.all fun q => decide (decode cX1_answer q.1 = .ok q.2)) = true := by decide +kernel
theorem dX1_answer_0 : decode cX1_answer 0 = .ok (.aload_n 0, 1) := tb_d tk_X1_answer_1 0 (0, .aload_n 0, 1) rfl
theorem dX1_answer_1 : decode cX1_answer 1 = .ok (.iload_n 1, 1) := tb_d tk_X1_answer_1 1 (1, .iload_n 1, 1) rfl
theorem dX1_answer_2 : decode cX1_answer 2 = .ok (.ifCond .ne 10, 3) := tb_d tk_X1_answer_1 2 (2, .ifCond .ne 10, 3) rfl
theorem dX1_answer_5 : decode cX1_answer 5 = .ok (.aload_n 0, 1) := tb_d tk_X1_answer_1 3 (5, .aload_n 0, 1) rfl
theorem dX1_answer_6 : decode cX1_answer 6 = .ok (.invokevirtual 34, 3) := tb_d tk_X1_answer_1 4 (6, .invokevirtual 34, 3) rfl
theorem dX1_answer_9 : decode cX1_answer 9 = .ok (.goto 7, 3) := tb_d tk_X1_answer_1 5 (9, .goto 7, 3) rfl
theorem dX1_answer_12 : decode cX1_answer 12 = .ok (.aload_n 0, 1) := tb_d tk_X1_answer_1 6 (12, .aload_n 0, 1) rfl
theorem dX1_answer_13 : decode cX1_answer 13 = .ok (.invokevirtual 38, 3) := tb_d tk_X1_answer_1 7 (13, .invokevirtual 38, 3) rfl
theorem dX1_answer_16 : decode cX1_answer 16 = .ok (.iconst 0, 1) := tb_d tk_X1_answer_1 8 (16, .iconst 0, 1) rfl
theorem dX1_answer_17 : decode cX1_answer 17 = .ok (.invokestatic 41, 3) := tb_d tk_X1_answer_1 9 (17, .invokestatic 41, 3) rfl
theorem dX1_answer_20 : decode cX1_answer 20 = .ok (.ireturn, 1) := tb_d tk_X1_answer_1 10 (20, .ireturn, 1) rfl
def tb_X1_sizeBody_1 : List (Nat × Instr × Nat) := [(0, .getstatic 45, 3), (3, .aload_n 0, 1), (4, .getfield 22, 3), (7, .ifCond .lt 18, 3), (10, .aload_n 0, 1), (11, .getfield 22, 3), (14, .iconst 5, 1), (15, .if_icmp .gt 10, 3), (18, .aload_n 0, 1), (19, .getfield 22, 3), (22, .goto 4, 3), (25, .iconst 0, 1), (26, .iaload, 1), (27, .ireturn, 1)]
set_option maxRecDepth 100000 in
theorem tk_X1_sizeBody_1 : (tb_X1_sizeBody_1.all fun q => decide (decode cX1_sizeBody q.1 = .ok q.2)) = true := by decide +kernel
theorem dX1_sizeBody_0 : decode cX1_sizeBody 0 = .ok (.getstatic 45, 3) := tb_d tk_X1_sizeBody_1 0 (0, .getstatic 45, 3) rfl
theorem dX1_sizeBody_3 : decode cX1_sizeBody 3 = .ok (.aload_n 0, 1) := tb_d tk_X1_sizeBody_1 1 (3, .aload_n 0, 1) rfl
theorem dX1_sizeBody_4 : decode cX1_sizeBody 4 = .ok (.getfield 22, 3) := tb_d tk_X1_sizeBody_1 2 (4, .getfield 22, 3) rfl
theorem dX1_sizeBody_7 : decode cX1_sizeBody 7 = .ok (.ifCond .lt 18, 3) := tb_d tk_X1_sizeBody_1 3 (7, .ifCond .lt 18, 3) rfl
theorem dX1_sizeBody_10 : decode cX1_sizeBody 10 = .ok (.aload_n 0, 1) := tb_d tk_X1_sizeBody_1 4 (10, .aload_n 0, 1) rfl
theorem dX1_sizeBody_11 : decode cX1_sizeBody 11 = .ok (.getfield 22, 3) := tb_d tk_X1_sizeBody_1 5 (11, .getfield 22, 3) rfl
theorem dX1_sizeBody_14 : decode cX1_sizeBody 14 = .ok (.iconst 5, 1) := tb_d tk_X1_sizeBody_1 6 (14, .iconst 5, 1) rfl
theorem dX1_sizeBody_15 : decode cX1_sizeBody 15 = .ok (.if_icmp .gt 10, 3) := tb_d tk_X1_sizeBody_1 7 (15, .if_icmp .gt 10, 3) rfl
theorem dX1_sizeBody_18 : decode cX1_sizeBody 18 = .ok (.aload_n 0, 1) := tb_d tk_X1_sizeBody_1 8 (18, .aload_n 0, 1) rfl
theorem dX1_sizeBody_19 : decode cX1_sizeBody 19 = .ok (.getfield 22, 3) := tb_d tk_X1_sizeBody_1 9 (19, .getfield 22, 3) rfl
theorem dX1_sizeBody_22 : decode cX1_sizeBody 22 = .ok (.goto 4, 3) := tb_d tk_X1_sizeBody_1 10 (22, .goto 4, 3) rfl
theorem dX1_sizeBody_25 : decode cX1_sizeBody 25 = .ok (.iconst 0, 1) := tb_d tk_X1_sizeBody_1 11 (25, .iconst 0, 1) rfl
theorem dX1_sizeBody_26 : decode cX1_sizeBody 26 = .ok (.iaload, 1) := tb_d tk_X1_sizeBody_1 12 (26, .iaload, 1) rfl
theorem dX1_sizeBody_27 : decode cX1_sizeBody 27 = .ok (.ireturn, 1) := tb_d tk_X1_sizeBody_1 13 (27, .ireturn, 1) rfl
def tb_X1_markBody_1 : List (Nat × Instr × Nat) := [(0, .getstatic 48, 3), (3, .aload_n 0, 1), (4, .getfield 22, 3), (7, .ifCond .lt 18, 3), (10, .aload_n 0, 1), (11, .getfield 22, 3), (14, .iconst 5, 1), (15, .if_icmp .gt 10, 3), (18, .aload_n 0, 1), (19, .getfield 22, 3), (22, .goto 4, 3), (25, .iconst 0, 1), (26, .iaload, 1), (27, .ireturn, 1)]
set_option maxRecDepth 100000 in
theorem tk_X1_markBody_1 : (tb_X1_markBody_1.all fun q => decide (decode cX1_markBody q.1 = .ok q.2)) = true := by decide +kernel
theorem dX1_markBody_0 : decode cX1_markBody 0 = .ok (.getstatic 48, 3) := tb_d tk_X1_markBody_1 0 (0, .getstatic 48, 3) rfl
theorem dX1_markBody_3 : decode cX1_markBody 3 = .ok (.aload_n 0, 1) := tb_d tk_X1_markBody_1 1 (3, .aload_n 0, 1) rfl
theorem dX1_markBody_4 : decode cX1_markBody 4 = .ok (.getfield 22, 3) := tb_d tk_X1_markBody_1 2 (4, .getfield 22, 3) rfl
theorem dX1_markBody_7 : decode cX1_markBody 7 = .ok (.ifCond .lt 18, 3) := tb_d tk_X1_markBody_1 3 (7, .ifCond .lt 18, 3) rfl
theorem dX1_markBody_10 : decode cX1_markBody 10 = .ok (.aload_n 0, 1) := tb_d tk_X1_markBody_1 4 (10, .aload_n 0, 1) rfl
theorem dX1_markBody_11 : decode cX1_markBody 11 = .ok (.getfield 22, 3) := tb_d tk_X1_markBody_1 5 (11, .getfield 22, 3) rfl
theorem dX1_markBody_14 : decode cX1_markBody 14 = .ok (.iconst 5, 1) := tb_d tk_X1_markBody_1 6 (14, .iconst 5, 1) rfl
theorem dX1_markBody_15 : decode cX1_markBody 15 = .ok (.if_icmp .gt 10, 3) := tb_d tk_X1_markBody_1 7 (15, .if_icmp .gt 10, 3) rfl
theorem dX1_markBody_18 : decode cX1_markBody 18 = .ok (.aload_n 0, 1) := tb_d tk_X1_markBody_1 8 (18, .aload_n 0, 1) rfl
theorem dX1_markBody_19 : decode cX1_markBody 19 = .ok (.getfield 22, 3) := tb_d tk_X1_markBody_1 9 (19, .getfield 22, 3) rfl
theorem dX1_markBody_22 : decode cX1_markBody 22 = .ok (.goto 4, 3) := tb_d tk_X1_markBody_1 10 (22, .goto 4, 3) rfl
theorem dX1_markBody_25 : decode cX1_markBody 25 = .ok (.iconst 0, 1) := tb_d tk_X1_markBody_1 11 (25, .iconst 0, 1) rfl
theorem dX1_markBody_26 : decode cX1_markBody 26 = .ok (.iaload, 1) := tb_d tk_X1_markBody_1 12 (26, .iaload, 1) rfl
theorem dX1_markBody_27 : decode cX1_markBody 27 = .ok (.ireturn, 1) := tb_d tk_X1_markBody_1 13 (27, .ireturn, 1) rfl
def tb_X1_leave_1 : List (Nat × Instr × Nat) := [(0, .aload_n 0, 1), (1, .getfield 31, 3), (4, .bipush 16, 2), (6, .if_icmp .ge 23, 3), (9, .aload_n 0, 1), (10, .getfield 11, 3), (13, .aload_n 0, 1), (14, .getfield 31, 3), (17, .iload_n 1, 1), (18, .iastore, 1), (19, .aload_n 0, 1), (20, .dup, 1), (21, .getfield 31, 3), (24, .iconst 1, 1), (25, .iadd, 1), (26, .putfield 31, 3), (29, .return_, 1)]
set_option maxRecDepth 100000 in
theorem tk_X1_leave_1 : (tb_X1_leave_1.all fun q => decide (decode cX1_leave q.1 = .ok q.2)) = true := by decide +kernel
theorem dX1_leave_0 : decode cX1_leave 0 = .ok (.aload_n 0, 1) := tb_d tk_X1_leave_1 0 (0, .aload_n 0, 1) rfl
theorem dX1_leave_1 : decode cX1_leave 1 = .ok (.getfield 31, 3) := tb_d tk_X1_leave_1 1 (1, .getfield 31, 3) rfl
theorem dX1_leave_4 : decode cX1_leave 4 = .ok (.bipush 16, 2) := tb_d tk_X1_leave_1 2 (4, .bipush 16, 2) rfl
theorem dX1_leave_6 : decode cX1_leave 6 = .ok (.if_icmp .ge 23, 3) := tb_d tk_X1_leave_1 3 (6, .if_icmp .ge 23, 3) rfl
theorem dX1_leave_9 : decode cX1_leave 9 = .ok (.aload_n 0, 1) := tb_d tk_X1_leave_1 4 (9, .aload_n 0, 1) rfl
theorem dX1_leave_10 : decode cX1_leave 10 = .ok (.getfield 11, 3) := tb_d tk_X1_leave_1 5 (10, .getfield 11, 3) rfl
theorem dX1_leave_13 : decode cX1_leave 13 = .ok (.aload_n 0, 1) := tb_d tk_X1_leave_1 6 (13, .aload_n 0, 1) rfl
theorem dX1_leave_14 : decode cX1_leave 14 = .ok (.getfield 31, 3) := tb_d tk_X1_leave_1 7 (14, .getfield 31, 3) rfl
theorem dX1_leave_17 : decode cX1_leave 17 = .ok (.iload_n 1, 1) := tb_d tk_X1_leave_1 8 (17, .iload_n 1, 1) rfl
theorem dX1_leave_18 : decode cX1_leave 18 = .ok (.iastore, 1) := tb_d tk_X1_leave_1 9 (18, .iastore, 1) rfl
theorem dX1_leave_19 : decode cX1_leave 19 = .ok (.aload_n 0, 1) := tb_d tk_X1_leave_1 10 (19, .aload_n 0, 1) rfl
theorem dX1_leave_20 : decode cX1_leave 20 = .ok (.dup, 1) := tb_d tk_X1_leave_1 11 (20, .dup, 1) rfl
theorem dX1_leave_21 : decode cX1_leave 21 = .ok (.getfield 31, 3) := tb_d tk_X1_leave_1 12 (21, .getfield 31, 3) rfl
theorem dX1_leave_24 : decode cX1_leave 24 = .ok (.iconst 1, 1) := tb_d tk_X1_leave_1 13 (24, .iconst 1, 1) rfl
theorem dX1_leave_25 : decode cX1_leave 25 = .ok (.iadd, 1) := tb_d tk_X1_leave_1 14 (25, .iadd, 1) rfl
theorem dX1_leave_26 : decode cX1_leave 26 = .ok (.putfield 31, 3) := tb_d tk_X1_leave_1 15 (26, .putfield 31, 3) rfl
theorem dX1_leave_29 : decode cX1_leave 29 = .ok (.return_, 1) := tb_d tk_X1_leave_1 16 (29, .return_, 1) rfl
theorem ggX1_given_X1_leave : GoodIn wsX1_given wsX1_leave := fun w h => ⟨List.mem_cons_of_mem _ (List.mem_append_right _ (List.mem_append_right _ (List.mem_append_right _ (List.mem_append_right _ (List.mem_append_right _ (List.mem_append_right _ (List.mem_append_left _ h))))))), good_of_word (gdX1_leave w h)⟩
set_option maxRecDepth 20000 in
theorem gX1_given_X1_leave : GoodIn wsX1_given (wsV RX1 51 RX1 yX1_leave wsX1_leave) := goodIn_app (a := bkV RX1 51 RX1 yX1_leave) (fun w h => ⟨List.mem_cons_of_mem _ (List.mem_append_right _ (List.mem_append_left _ h)), good_of_word (gd_bV _ _ _ _ w h)⟩) ggX1_given_X1_leave
theorem ggX1_given_X1_given : GoodIn wsX1_given wsX1_given := fun w h => ⟨h, good_of_word (gdX1_given w h)⟩
set_option maxRecDepth 20000 in
theorem gX1_given_X1_given : GoodIn wsX1_given (va_wsS RX1 41 yX1_given wsX1_given) := goodIn_app (a := bkS RX1 41 yX1_given) (fun w h => ⟨List.mem_cons_of_mem _ (List.mem_append_right _ (List.mem_append_right _ (List.mem_append_left _ h))), good_of_word (gd_bS _ _ _ w h)⟩) ggX1_given_X1_given
theorem ggX1_given_X1_markBody : GoodIn wsX1_given wsX1_markBody := fun w h => ⟨List.mem_cons_of_mem _ (List.mem_append_right _ (List.mem_append_right _ (List.mem_append_right _ (List.mem_append_right _ (List.mem_append_right _ (List.mem_append_right _ (List.mem_append_right _ (List.mem_append_left _ h)))))))), good_of_word (gdX1_markBody w h)⟩
set_option maxRecDepth 20000 in
theorem gX1_given_X1_markBody : GoodIn wsX1_given (wsV RX1 38 RX1 yX1_markBody wsX1_markBody) := goodIn_app (a := bkV RX1 38 RX1 yX1_markBody) (fun w h => ⟨List.mem_cons_of_mem _ (List.mem_append_right _ (List.mem_append_right _ (List.mem_append_right _ (List.mem_append_left _ h)))), good_of_word (gd_bV _ _ _ _ w h)⟩) ggX1_given_X1_markBody
theorem ggX1_given_X1_sizeBody : GoodIn wsX1_given wsX1_sizeBody := fun w h => ⟨List.mem_cons_of_mem _ (List.mem_append_right _ (List.mem_append_right _ (List.mem_append_right _ (List.mem_append_right _ (List.mem_append_right _ (List.mem_append_right _ (List.mem_append_right _ (List.mem_append_right _ (List.mem_append_left _ h))))))))), good_of_word (gdX1_sizeBody w h)⟩
set_option maxRecDepth 20000 in
theorem gX1_given_X1_sizeBody : GoodIn wsX1_given (wsV RX1 34 RX1 yX1_sizeBody wsX1_sizeBody) := goodIn_app (a := bkV RX1 34 RX1 yX1_sizeBody) (fun w h => ⟨List.mem_cons_of_mem _ (List.mem_append_right _ (List.mem_append_right _ (List.mem_append_right _ (List.mem_append_right _ (List.mem_append_left _ h))))), good_of_word (gd_bV _ _ _ _ w h)⟩) ggX1_given_X1_sizeBody
def tb_X1_given_1 : List (Nat × Instr × Nat) := [(0, .iload_n 2, 1), (1, .bipush 20, 2), (3, .if_icmp .le 5, 3), (6, .iconst 0, 1), (7, .ireturn, 1), (8, .aload_n 0, 1), (9, .iload_n 1, 1), (10, .invokevirtual 51, 3), (13, .iload_n 2, 1), (14, .iconst 1, 1), (15, .iadd, 1), (16, .istore_n 3, 1), (17, .iload_n 1, 1), (18, .tableswitch 185 10 24 #[74, 79, 97, 106, 117, 185, 185, 185, 185, 185, 127, 132, 145, 157, 175], 74), (92, .aload_n 0, 1), (93, .getfield 25, 3), (96, .ireturn, 1), (97, .aload_n 0, 1), (98, .bipush 10, 2), (100, .iload_n 3, 1), (101, .invokestatic 41, 3), (104, .aload_n 0, 1), (105, .aload_n 0, 1), (106, .invokevirtual 38, 3), (109, .iload_n 3, 1), (110, .invokestatic 41, 3), (113, .iadd, 1), (114, .ireturn, 1), (115, .aload_n 0, 1), (116, .bipush 11, 2), (118, .iload_n 3, 1), (119, .invokestatic 41, 3), (122, .ineg, 1), (123, .ireturn, 1), (124, .aload_n 0, 1), (125, .bipush 10, 2), (127, .iload_n 3, 1), (128, .invokestatic 41, 3), (131, .bipush 100, 2), (133, .isub, 1)]
set_option maxRecDepth 100000 in
theorem tk_X1_given_1 : (tb_X1_given_1.all fun q => decide (decode cX1_given q.1 = .ok q.2)) = true := by decide +kernel
theorem dX1_given_0 : decode cX1_given 0 = .ok (.iload_n 2, 1) := tb_d tk_X1_given_1 0 (0, .iload_n 2, 1) rfl
theorem dX1_given_1 : decode cX1_given 1 = .ok (.bipush 20, 2) := tb_d tk_X1_given_1 1 (1, .bipush 20, 2) rfl
theorem dX1_given_3 : decode cX1_given 3 = .ok (.if_icmp .le 5, 3) := tb_d tk_X1_given_1 2 (3, .if_icmp .le 5, 3) rfl
theorem dX1_given_6 : decode cX1_given 6 = .ok (.iconst 0, 1) := tb_d tk_X1_given_1 3 (6, .iconst 0, 1) rfl
theorem dX1_given_7 : decode cX1_given 7 = .ok (.ireturn, 1) := tb_d tk_X1_given_1 4 (7, .ireturn, 1) rfl
theorem dX1_given_8 : decode cX1_given 8 = .ok (.aload_n 0, 1) := tb_d tk_X1_given_1 5 (8, .aload_n 0, 1) rfl
theorem dX1_given_9 : decode cX1_given 9 = .ok (.iload_n 1, 1) := tb_d tk_X1_given_1 6 (9, .iload_n 1, 1) rfl
theorem dX1_given_10 : decode cX1_given 10 = .ok (.invokevirtual 51, 3) := tb_d tk_X1_given_1 7 (10, .invokevirtual 51, 3) rfl
theorem dX1_given_13 : decode cX1_given 13 = .ok (.iload_n 2, 1) := tb_d tk_X1_given_1 8 (13, .iload_n 2, 1) rfl
theorem dX1_given_14 : decode cX1_given 14 = .ok (.iconst 1, 1) := tb_d tk_X1_given_1 9 (14, .iconst 1, 1) rfl
theorem dX1_given_15 : decode cX1_given 15 = .ok (.iadd, 1) := tb_d tk_X1_given_1 10 (15, .iadd, 1) rfl
theorem dX1_given_16 : decode cX1_given 16 = .ok (.istore_n 3, 1) := tb_d tk_X1_given_1 11 (16, .istore_n 3, 1) rfl
theorem dX1_given_17 : decode cX1_given 17 = .ok (.iload_n 1, 1) := tb_d tk_X1_given_1 12 (17, .iload_n 1, 1) rfl
theorem dX1_given_18 : decode cX1_given 18 = .ok (.tableswitch 185 10 24 #[74, 79, 97, 106, 117, 185, 185, 185, 185, 185, 127, 132, 145, 157, 175], 74) := tb_d tk_X1_given_1 13 (18, .tableswitch 185 10 24 #[74, 79, 97, 106, 117, 185, 185, 185, 185, 185, 127, 132, 145, 157, 175], 74) rfl
theorem dX1_given_92 : decode cX1_given 92 = .ok (.aload_n 0, 1) := tb_d tk_X1_given_1 14 (92, .aload_n 0, 1) rfl
theorem dX1_given_93 : decode cX1_given 93 = .ok (.getfield 25, 3) := tb_d tk_X1_given_1 15 (93, .getfield 25, 3) rfl
theorem dX1_given_96 : decode cX1_given 96 = .ok (.ireturn, 1) := tb_d tk_X1_given_1 16 (96, .ireturn, 1) rfl
theorem dX1_given_97 : decode cX1_given 97 = .ok (.aload_n 0, 1) := tb_d tk_X1_given_1 17 (97, .aload_n 0, 1) rfl
theorem dX1_given_98 : decode cX1_given 98 = .ok (.bipush 10, 2) := tb_d tk_X1_given_1 18 (98, .bipush 10, 2) rfl
theorem dX1_given_100 : decode cX1_given 100 = .ok (.iload_n 3, 1) := tb_d tk_X1_given_1 19 (100, .iload_n 3, 1) rfl
theorem dX1_given_101 : decode cX1_given 101 = .ok (.invokestatic 41, 3) := tb_d tk_X1_given_1 20 (101, .invokestatic 41, 3) rfl
theorem dX1_given_104 : decode cX1_given 104 = .ok (.aload_n 0, 1) := tb_d tk_X1_given_1 21 (104, .aload_n 0, 1) rfl
theorem dX1_given_105 : decode cX1_given 105 = .ok (.aload_n 0, 1) := tb_d tk_X1_given_1 22 (105, .aload_n 0, 1) rfl
theorem dX1_given_106 : decode cX1_given 106 = .ok (.invokevirtual 38, 3) := tb_d tk_X1_given_1 23 (106, .invokevirtual 38, 3) rfl
theorem dX1_given_109 : decode cX1_given 109 = .ok (.iload_n 3, 1) := tb_d tk_X1_given_1 24 (109, .iload_n 3, 1) rfl
theorem dX1_given_110 : decode cX1_given 110 = .ok (.invokestatic 41, 3) := tb_d tk_X1_given_1 25 (110, .invokestatic 41, 3) rfl
theorem dX1_given_113 : decode cX1_given 113 = .ok (.iadd, 1) := tb_d tk_X1_given_1 26 (113, .iadd, 1) rfl
theorem dX1_given_114 : decode cX1_given 114 = .ok (.ireturn, 1) := tb_d tk_X1_given_1 27 (114, .ireturn, 1) rfl
theorem dX1_given_115 : decode cX1_given 115 = .ok (.aload_n 0, 1) := tb_d tk_X1_given_1 28 (115, .aload_n 0, 1) rfl
theorem dX1_given_116 : decode cX1_given 116 = .ok (.bipush 11, 2) := tb_d tk_X1_given_1 29 (116, .bipush 11, 2) rfl
theorem dX1_given_118 : decode cX1_given 118 = .ok (.iload_n 3, 1) := tb_d tk_X1_given_1 30 (118, .iload_n 3, 1) rfl
theorem dX1_given_119 : decode cX1_given 119 = .ok (.invokestatic 41, 3) := tb_d tk_X1_given_1 31 (119, .invokestatic 41, 3) rfl
theorem dX1_given_122 : decode cX1_given 122 = .ok (.ineg, 1) := tb_d tk_X1_given_1 32 (122, .ineg, 1) rfl
theorem dX1_given_123 : decode cX1_given 123 = .ok (.ireturn, 1) := tb_d tk_X1_given_1 33 (123, .ireturn, 1) rfl
theorem dX1_given_124 : decode cX1_given 124 = .ok (.aload_n 0, 1) := tb_d tk_X1_given_1 34 (124, .aload_n 0, 1) rfl
theorem dX1_given_125 : decode cX1_given 125 = .ok (.bipush 10, 2) := tb_d tk_X1_given_1 35 (125, .bipush 10, 2) rfl
theorem dX1_given_127 : decode cX1_given 127 = .ok (.iload_n 3, 1) := tb_d tk_X1_given_1 36 (127, .iload_n 3, 1) rfl
theorem dX1_given_128 : decode cX1_given 128 = .ok (.invokestatic 41, 3) := tb_d tk_X1_given_1 37 (128, .invokestatic 41, 3) rfl
theorem dX1_given_131 : decode cX1_given 131 = .ok (.bipush 100, 2) := tb_d tk_X1_given_1 38 (131, .bipush 100, 2) rfl
theorem dX1_given_133 : decode cX1_given 133 = .ok (.isub, 1) := tb_d tk_X1_given_1 39 (133, .isub, 1) rfl
def tb_X1_given_2 : List (Nat × Instr × Nat) := [(134, .ireturn, 1), (135, .aload_n 0, 1), (136, .bipush 13, 2), (138, .iload_n 3, 1), (139, .invokestatic 41, 3), (142, .iconst 2, 1), (143, .imul, 1), (144, .ireturn, 1), (145, .aload_n 0, 1), (146, .getfield 18, 3), (149, .ireturn, 1), (150, .aload_n 0, 1), (151, .bipush 20, 2), (153, .iload_n 3, 1), (154, .invokestatic 41, 3), (157, .aload_n 0, 1), (158, .getfield 28, 3), (161, .iadd, 1), (162, .ireturn, 1), (163, .aload_n 0, 1), (164, .bipush 21, 2), (166, .iload_n 3, 1), (167, .invokestatic 41, 3), (170, .sipush 1000, 3), (173, .isub, 1), (174, .ireturn, 1), (175, .aload_n 0, 1), (176, .bipush 20, 2), (178, .iload_n 3, 1), (179, .invokestatic 41, 3), (182, .aload_n 0, 1), (183, .aload_n 0, 1), (184, .invokevirtual 34, 3), (187, .iload_n 3, 1), (188, .invokestatic 41, 3), (191, .isub, 1), (192, .ireturn, 1), (193, .aload_n 0, 1), (194, .bipush 21, 2), (196, .iload_n 3, 1)]
set_option maxRecDepth 100000 in
theorem tk_X1_given_2 : (tb_X1_given_2.all fun q => decide (decode cX1_given q.1 = .ok q.2)) = true := by decide +kernel
theorem dX1_given_134 : decode cX1_given 134 = .ok (.ireturn, 1) := tb_d tk_X1_given_2 0 (134, .ireturn, 1) rfl
theorem dX1_given_135 : decode cX1_given 135 = .ok (.aload_n 0, 1) := tb_d tk_X1_given_2 1 (135, .aload_n 0, 1) rfl
theorem dX1_given_136 : decode cX1_given 136 = .ok (.bipush 13, 2) := tb_d tk_X1_given_2 2 (136, .bipush 13, 2) rfl
theorem dX1_given_138 : decode cX1_given 138 = .ok (.iload_n 3, 1) := tb_d tk_X1_given_2 3 (138, .iload_n 3, 1) rfl
theorem dX1_given_139 : decode cX1_given 139 = .ok (.invokestatic 41, 3) := tb_d tk_X1_given_2 4 (139, .invokestatic 41, 3) rfl
theorem dX1_given_142 : decode cX1_given 142 = .ok (.iconst 2, 1) := tb_d tk_X1_given_2 5 (142, .iconst 2, 1) rfl
theorem dX1_given_143 : decode cX1_given 143 = .ok (.imul, 1) := tb_d tk_X1_given_2 6 (143, .imul, 1) rfl
theorem dX1_given_144 : decode cX1_given 144 = .ok (.ireturn, 1) := tb_d tk_X1_given_2 7 (144, .ireturn, 1) rfl
theorem dX1_given_145 : decode cX1_given 145 = .ok (.aload_n 0, 1) := tb_d tk_X1_given_2 8 (145, .aload_n 0, 1) rfl
theorem dX1_given_146 : decode cX1_given 146 = .ok (.getfield 18, 3) := tb_d tk_X1_given_2 9 (146, .getfield 18, 3) rfl
theorem dX1_given_149 : decode cX1_given 149 = .ok (.ireturn, 1) := tb_d tk_X1_given_2 10 (149, .ireturn, 1) rfl
theorem dX1_given_150 : decode cX1_given 150 = .ok (.aload_n 0, 1) := tb_d tk_X1_given_2 11 (150, .aload_n 0, 1) rfl
theorem dX1_given_151 : decode cX1_given 151 = .ok (.bipush 20, 2) := tb_d tk_X1_given_2 12 (151, .bipush 20, 2) rfl
theorem dX1_given_153 : decode cX1_given 153 = .ok (.iload_n 3, 1) := tb_d tk_X1_given_2 13 (153, .iload_n 3, 1) rfl
theorem dX1_given_154 : decode cX1_given 154 = .ok (.invokestatic 41, 3) := tb_d tk_X1_given_2 14 (154, .invokestatic 41, 3) rfl
theorem dX1_given_157 : decode cX1_given 157 = .ok (.aload_n 0, 1) := tb_d tk_X1_given_2 15 (157, .aload_n 0, 1) rfl
theorem dX1_given_158 : decode cX1_given 158 = .ok (.getfield 28, 3) := tb_d tk_X1_given_2 16 (158, .getfield 28, 3) rfl
theorem dX1_given_161 : decode cX1_given 161 = .ok (.iadd, 1) := tb_d tk_X1_given_2 17 (161, .iadd, 1) rfl
theorem dX1_given_162 : decode cX1_given 162 = .ok (.ireturn, 1) := tb_d tk_X1_given_2 18 (162, .ireturn, 1) rfl
theorem dX1_given_163 : decode cX1_given 163 = .ok (.aload_n 0, 1) := tb_d tk_X1_given_2 19 (163, .aload_n 0, 1) rfl
theorem dX1_given_164 : decode cX1_given 164 = .ok (.bipush 21, 2) := tb_d tk_X1_given_2 20 (164, .bipush 21, 2) rfl
theorem dX1_given_166 : decode cX1_given 166 = .ok (.iload_n 3, 1) := tb_d tk_X1_given_2 21 (166, .iload_n 3, 1) rfl
theorem dX1_given_167 : decode cX1_given 167 = .ok (.invokestatic 41, 3) := tb_d tk_X1_given_2 22 (167, .invokestatic 41, 3) rfl
theorem dX1_given_170 : decode cX1_given 170 = .ok (.sipush 1000, 3) := tb_d tk_X1_given_2 23 (170, .sipush 1000, 3) rfl
theorem dX1_given_173 : decode cX1_given 173 = .ok (.isub, 1) := tb_d tk_X1_given_2 24 (173, .isub, 1) rfl
theorem dX1_given_174 : decode cX1_given 174 = .ok (.ireturn, 1) := tb_d tk_X1_given_2 25 (174, .ireturn, 1) rfl
theorem dX1_given_175 : decode cX1_given 175 = .ok (.aload_n 0, 1) := tb_d tk_X1_given_2 26 (175, .aload_n 0, 1) rfl
theorem dX1_given_176 : decode cX1_given 176 = .ok (.bipush 20, 2) := tb_d tk_X1_given_2 27 (176, .bipush 20, 2) rfl
theorem dX1_given_178 : decode cX1_given 178 = .ok (.iload_n 3, 1) := tb_d tk_X1_given_2 28 (178, .iload_n 3, 1) rfl
theorem dX1_given_179 : decode cX1_given 179 = .ok (.invokestatic 41, 3) := tb_d tk_X1_given_2 29 (179, .invokestatic 41, 3) rfl
theorem dX1_given_182 : decode cX1_given 182 = .ok (.aload_n 0, 1) := tb_d tk_X1_given_2 30 (182, .aload_n 0, 1) rfl
theorem dX1_given_183 : decode cX1_given 183 = .ok (.aload_n 0, 1) := tb_d tk_X1_given_2 31 (183, .aload_n 0, 1) rfl
theorem dX1_given_184 : decode cX1_given 184 = .ok (.invokevirtual 34, 3) := tb_d tk_X1_given_2 32 (184, .invokevirtual 34, 3) rfl
theorem dX1_given_187 : decode cX1_given 187 = .ok (.iload_n 3, 1) := tb_d tk_X1_given_2 33 (187, .iload_n 3, 1) rfl
theorem dX1_given_188 : decode cX1_given 188 = .ok (.invokestatic 41, 3) := tb_d tk_X1_given_2 34 (188, .invokestatic 41, 3) rfl
theorem dX1_given_191 : decode cX1_given 191 = .ok (.isub, 1) := tb_d tk_X1_given_2 35 (191, .isub, 1) rfl
theorem dX1_given_192 : decode cX1_given 192 = .ok (.ireturn, 1) := tb_d tk_X1_given_2 36 (192, .ireturn, 1) rfl
theorem dX1_given_193 : decode cX1_given 193 = .ok (.aload_n 0, 1) := tb_d tk_X1_given_2 37 (193, .aload_n 0, 1) rfl
theorem dX1_given_194 : decode cX1_given 194 = .ok (.bipush 21, 2) := tb_d tk_X1_given_2 38 (194, .bipush 21, 2) rfl
theorem dX1_given_196 : decode cX1_given 196 = .ok (.iload_n 3, 1) := tb_d tk_X1_given_2 39 (196, .iload_n 3, 1) rfl
def tb_X1_given_3 : List (Nat × Instr × Nat) := [(197, .invokestatic 41, 3), (200, .iconst 2, 1), (201, .imul, 1), (202, .ireturn, 1), (203, .iconst 0, 1), (204, .ireturn, 1)]
set_option maxRecDepth 100000 in
theorem tk_X1_given_3 : (tb_X1_given_3.all fun q => decide (decode cX1_given q.1 = .ok q.2)) = true := by decide +kernel
theorem dX1_given_197 : decode cX1_given 197 = .ok (.invokestatic 41, 3) := tb_d tk_X1_given_3 0 (197, .invokestatic 41, 3) rfl
theorem dX1_given_200 : decode cX1_given 200 = .ok (.iconst 2, 1) := tb_d tk_X1_given_3 1 (200, .iconst 2, 1) rfl
theorem dX1_given_201 : decode cX1_given 201 = .ok (.imul, 1) := tb_d tk_X1_given_3 2 (201, .imul, 1) rfl
theorem dX1_given_202 : decode cX1_given 202 = .ok (.ireturn, 1) := tb_d tk_X1_given_3 3 (202, .ireturn, 1) rfl
theorem dX1_given_203 : decode cX1_given 203 = .ok (.iconst 0, 1) := tb_d tk_X1_given_3 4 (203, .iconst 0, 1) rfl
theorem dX1_given_204 : decode cX1_given 204 = .ok (.ireturn, 1) := tb_d tk_X1_given_3 5 (204, .ireturn, 1) rfl
theorem ggX2_init_X4_init : GoodIn wsX2_init wsX4_init := fun w h => ⟨List.mem_cons_of_mem _ (List.mem_append_right _ (List.mem_append_right _ (List.mem_append_right _ (List.mem_append_left _ h)))), good_of_word (gdX4_init w h)⟩
set_option maxRecDepth 20000 in
theorem gX2_init_X4_init_n23 : GoodIn wsX2_init (wsX4_init) := ggX2_init_X4_init
def tb_X2_init_1 : List (Nat × Instr × Nat) := [(0, .aload_n 0, 1), (1, .invokespecial 3, 3), (4, .aload_n 0, 1), (5, .bipush 18, 2), (7, .newarray .int, 2), (9, .putfield 9, 3), (12, .aload_n 0, 1), (13, .iconst 4, 1), (14, .newarray .int, 2), (16, .putfield 15, 3), (19, .aload_n 0, 1), (20, .iconst 4, 1), (21, .newarray .int, 2), (23, .putfield 18, 3), (26, .aload_n 0, 1), (27, .new 21, 3), (30, .dup, 1), (31, .invokespecial 23, 3), (34, .putfield 24, 3), (37, .return_, 1)]
set_option maxRecDepth 100000 in
theorem tk_X2_init_1 : (tb_X2_init_1.all fun q => decide (decode cX2_init q.1 = .ok q.2)) = true := by decide +kernel
theorem dX2_init_0 : decode cX2_init 0 = .ok (.aload_n 0, 1) := tb_d tk_X2_init_1 0 (0, .aload_n 0, 1) rfl
theorem dX2_init_1 : decode cX2_init 1 = .ok (.invokespecial 3, 3) := tb_d tk_X2_init_1 1 (1, .invokespecial 3, 3) rfl
theorem dX2_init_4 : decode cX2_init 4 = .ok (.aload_n 0, 1) := tb_d tk_X2_init_1 2 (4, .aload_n 0, 1) rfl
theorem dX2_init_5 : decode cX2_init 5 = .ok (.bipush 18, 2) := tb_d tk_X2_init_1 3 (5, .bipush 18, 2) rfl
theorem dX2_init_7 : decode cX2_init 7 = .ok (.newarray .int, 2) := tb_d tk_X2_init_1 4 (7, .newarray .int, 2) rfl
theorem dX2_init_9 : decode cX2_init 9 = .ok (.putfield 9, 3) := tb_d tk_X2_init_1 5 (9, .putfield 9, 3) rfl
theorem dX2_init_12 : decode cX2_init 12 = .ok (.aload_n 0, 1) := tb_d tk_X2_init_1 6 (12, .aload_n 0, 1) rfl
theorem dX2_init_13 : decode cX2_init 13 = .ok (.iconst 4, 1) := tb_d tk_X2_init_1 7 (13, .iconst 4, 1) rfl
theorem dX2_init_14 : decode cX2_init 14 = .ok (.newarray .int, 2) := tb_d tk_X2_init_1 8 (14, .newarray .int, 2) rfl
theorem dX2_init_16 : decode cX2_init 16 = .ok (.putfield 15, 3) := tb_d tk_X2_init_1 9 (16, .putfield 15, 3) rfl
theorem dX2_init_19 : decode cX2_init 19 = .ok (.aload_n 0, 1) := tb_d tk_X2_init_1 10 (19, .aload_n 0, 1) rfl
theorem dX2_init_20 : decode cX2_init 20 = .ok (.iconst 4, 1) := tb_d tk_X2_init_1 11 (20, .iconst 4, 1) rfl
theorem dX2_init_21 : decode cX2_init 21 = .ok (.newarray .int, 2) := tb_d tk_X2_init_1 12 (21, .newarray .int, 2) rfl
theorem dX2_init_23 : decode cX2_init 23 = .ok (.putfield 18, 3) := tb_d tk_X2_init_1 13 (23, .putfield 18, 3) rfl
theorem dX2_init_26 : decode cX2_init 26 = .ok (.aload_n 0, 1) := tb_d tk_X2_init_1 14 (26, .aload_n 0, 1) rfl
theorem dX2_init_27 : decode cX2_init 27 = .ok (.new 21, 3) := tb_d tk_X2_init_1 15 (27, .new 21, 3) rfl
theorem dX2_init_30 : decode cX2_init 30 = .ok (.dup, 1) := tb_d tk_X2_init_1 16 (30, .dup, 1) rfl
theorem dX2_init_31 : decode cX2_init 31 = .ok (.invokespecial 23, 3) := tb_d tk_X2_init_1 17 (31, .invokespecial 23, 3) rfl
theorem dX2_init_34 : decode cX2_init 34 = .ok (.putfield 24, 3) := tb_d tk_X2_init_1 18 (34, .putfield 24, 3) rfl
theorem dX2_init_37 : decode cX2_init 37 = .ok (.return_, 1) := tb_d tk_X2_init_1 19 (37, .return_, 1) rfl
theorem ggX2_become_X4_become : GoodIn wsX2_become wsX4_become := fun w h => ⟨List.mem_cons_of_mem _ (List.mem_append_right _ (List.mem_append_right _ (List.mem_append_right _ (List.mem_append_right _ (List.mem_append_left _ h))))), good_of_word (gdX4_become w h)⟩
set_option maxRecDepth 20000 in
theorem gX2_become_X4_become : GoodIn wsX2_become (wsV RX2 34 RX4 yX4_become wsX4_become) := goodIn_app (a := bkV RX2 34 RX4 yX4_become) (fun w h => ⟨List.mem_cons_of_mem _ (List.mem_append_right _ (List.mem_append_left _ h)), good_of_word (gd_bV _ _ _ _ w h)⟩) ggX2_become_X4_become
def tb_X2_become_1 : List (Nat × Instr × Nat) := [(0, .aload_n 1, 1), (1, .getfield 9, 3), (4, .iconst 0, 1), (5, .aload_n 0, 1), (6, .getfield 9, 3), (9, .iconst 0, 1), (10, .bipush 18, 2), (12, .invokestatic 28, 3), (15, .aload_n 1, 1), (16, .getfield 15, 3), (19, .iconst 0, 1), (20, .aload_n 0, 1), (21, .getfield 15, 3), (24, .iconst 0, 1), (25, .iconst 4, 1), (26, .invokestatic 28, 3), (29, .aload_n 1, 1), (30, .getfield 18, 3), (33, .iconst 0, 1), (34, .aload_n 0, 1), (35, .getfield 18, 3), (38, .iconst 0, 1), (39, .iconst 4, 1), (40, .invokestatic 28, 3), (43, .aload_n 0, 1), (44, .getfield 24, 3), (47, .aload_n 1, 1), (48, .getfield 24, 3), (51, .invokevirtual 34, 3), (54, .aload_n 0, 1), (55, .aload_n 1, 1), (56, .getfield 38, 3), (59, .putfield 38, 3), (62, .aload_n 0, 1), (63, .aload_n 1, 1), (64, .getfield 42, 3), (67, .putfield 42, 3), (70, .aload_n 0, 1), (71, .aload_n 1, 1), (72, .getfield 45, 3)]
set_option maxRecDepth 100000 in
theorem tk_X2_become_1 : (tb_X2_become_1.all fun q => decide (decode cX2_become q.1 = .ok q.2)) = true := by decide +kernel
theorem dX2_become_0 : decode cX2_become 0 = .ok (.aload_n 1, 1) := tb_d tk_X2_become_1 0 (0, .aload_n 1, 1) rfl
theorem dX2_become_1 : decode cX2_become 1 = .ok (.getfield 9, 3) := tb_d tk_X2_become_1 1 (1, .getfield 9, 3) rfl
theorem dX2_become_4 : decode cX2_become 4 = .ok (.iconst 0, 1) := tb_d tk_X2_become_1 2 (4, .iconst 0, 1) rfl
theorem dX2_become_5 : decode cX2_become 5 = .ok (.aload_n 0, 1) := tb_d tk_X2_become_1 3 (5, .aload_n 0, 1) rfl
theorem dX2_become_6 : decode cX2_become 6 = .ok (.getfield 9, 3) := tb_d tk_X2_become_1 4 (6, .getfield 9, 3) rfl
theorem dX2_become_9 : decode cX2_become 9 = .ok (.iconst 0, 1) := tb_d tk_X2_become_1 5 (9, .iconst 0, 1) rfl
theorem dX2_become_10 : decode cX2_become 10 = .ok (.bipush 18, 2) := tb_d tk_X2_become_1 6 (10, .bipush 18, 2) rfl
theorem dX2_become_12 : decode cX2_become 12 = .ok (.invokestatic 28, 3) := tb_d tk_X2_become_1 7 (12, .invokestatic 28, 3) rfl
theorem dX2_become_15 : decode cX2_become 15 = .ok (.aload_n 1, 1) := tb_d tk_X2_become_1 8 (15, .aload_n 1, 1) rfl
theorem dX2_become_16 : decode cX2_become 16 = .ok (.getfield 15, 3) := tb_d tk_X2_become_1 9 (16, .getfield 15, 3) rfl
theorem dX2_become_19 : decode cX2_become 19 = .ok (.iconst 0, 1) := tb_d tk_X2_become_1 10 (19, .iconst 0, 1) rfl
theorem dX2_become_20 : decode cX2_become 20 = .ok (.aload_n 0, 1) := tb_d tk_X2_become_1 11 (20, .aload_n 0, 1) rfl
theorem dX2_become_21 : decode cX2_become 21 = .ok (.getfield 15, 3) := tb_d tk_X2_become_1 12 (21, .getfield 15, 3) rfl
theorem dX2_become_24 : decode cX2_become 24 = .ok (.iconst 0, 1) := tb_d tk_X2_become_1 13 (24, .iconst 0, 1) rfl
theorem dX2_become_25 : decode cX2_become 25 = .ok (.iconst 4, 1) := tb_d tk_X2_become_1 14 (25, .iconst 4, 1) rfl
theorem dX2_become_26 : decode cX2_become 26 = .ok (.invokestatic 28, 3) := tb_d tk_X2_become_1 15 (26, .invokestatic 28, 3) rfl
theorem dX2_become_29 : decode cX2_become 29 = .ok (.aload_n 1, 1) := tb_d tk_X2_become_1 16 (29, .aload_n 1, 1) rfl
theorem dX2_become_30 : decode cX2_become 30 = .ok (.getfield 18, 3) := tb_d tk_X2_become_1 17 (30, .getfield 18, 3) rfl
theorem dX2_become_33 : decode cX2_become 33 = .ok (.iconst 0, 1) := tb_d tk_X2_become_1 18 (33, .iconst 0, 1) rfl
theorem dX2_become_34 : decode cX2_become 34 = .ok (.aload_n 0, 1) := tb_d tk_X2_become_1 19 (34, .aload_n 0, 1) rfl
theorem dX2_become_35 : decode cX2_become 35 = .ok (.getfield 18, 3) := tb_d tk_X2_become_1 20 (35, .getfield 18, 3) rfl
theorem dX2_become_38 : decode cX2_become 38 = .ok (.iconst 0, 1) := tb_d tk_X2_become_1 21 (38, .iconst 0, 1) rfl
theorem dX2_become_39 : decode cX2_become 39 = .ok (.iconst 4, 1) := tb_d tk_X2_become_1 22 (39, .iconst 4, 1) rfl
theorem dX2_become_40 : decode cX2_become 40 = .ok (.invokestatic 28, 3) := tb_d tk_X2_become_1 23 (40, .invokestatic 28, 3) rfl
theorem dX2_become_43 : decode cX2_become 43 = .ok (.aload_n 0, 1) := tb_d tk_X2_become_1 24 (43, .aload_n 0, 1) rfl
theorem dX2_become_44 : decode cX2_become 44 = .ok (.getfield 24, 3) := tb_d tk_X2_become_1 25 (44, .getfield 24, 3) rfl
theorem dX2_become_47 : decode cX2_become 47 = .ok (.aload_n 1, 1) := tb_d tk_X2_become_1 26 (47, .aload_n 1, 1) rfl
theorem dX2_become_48 : decode cX2_become 48 = .ok (.getfield 24, 3) := tb_d tk_X2_become_1 27 (48, .getfield 24, 3) rfl
theorem dX2_become_51 : decode cX2_become 51 = .ok (.invokevirtual 34, 3) := tb_d tk_X2_become_1 28 (51, .invokevirtual 34, 3) rfl
theorem dX2_become_54 : decode cX2_become 54 = .ok (.aload_n 0, 1) := tb_d tk_X2_become_1 29 (54, .aload_n 0, 1) rfl
theorem dX2_become_55 : decode cX2_become 55 = .ok (.aload_n 1, 1) := tb_d tk_X2_become_1 30 (55, .aload_n 1, 1) rfl
theorem dX2_become_56 : decode cX2_become 56 = .ok (.getfield 38, 3) := tb_d tk_X2_become_1 31 (56, .getfield 38, 3) rfl
theorem dX2_become_59 : decode cX2_become 59 = .ok (.putfield 38, 3) := tb_d tk_X2_become_1 32 (59, .putfield 38, 3) rfl
theorem dX2_become_62 : decode cX2_become 62 = .ok (.aload_n 0, 1) := tb_d tk_X2_become_1 33 (62, .aload_n 0, 1) rfl
theorem dX2_become_63 : decode cX2_become 63 = .ok (.aload_n 1, 1) := tb_d tk_X2_become_1 34 (63, .aload_n 1, 1) rfl
theorem dX2_become_64 : decode cX2_become 64 = .ok (.getfield 42, 3) := tb_d tk_X2_become_1 35 (64, .getfield 42, 3) rfl
theorem dX2_become_67 : decode cX2_become 67 = .ok (.putfield 42, 3) := tb_d tk_X2_become_1 36 (67, .putfield 42, 3) rfl
theorem dX2_become_70 : decode cX2_become 70 = .ok (.aload_n 0, 1) := tb_d tk_X2_become_1 37 (70, .aload_n 0, 1) rfl
theorem dX2_become_71 : decode cX2_become 71 = .ok (.aload_n 1, 1) := tb_d tk_X2_become_1 38 (71, .aload_n 1, 1) rfl
theorem dX2_become_72 : decode cX2_become 72 = .ok (.getfield 45, 3) := tb_d tk_X2_become_1 39 (72, .getfield 45, 3) rfl
def tb_X2_become_2 : List (Nat × Instr × Nat) := [(75, .putfield 45, 3), (78, .aload_n 0, 1), (79, .aload_n 1, 1), (80, .getfield 48, 3), (83, .putfield 48, 3), (86, .return_, 1)]
set_option maxRecDepth 100000 in
theorem tk_X2_become_2 : (tb_X2_become_2.all fun q => decide (decode cX2_become q.1 = .ok q.2)) = true := by decide +kernel
theorem dX2_become_75 : decode cX2_become 75 = .ok (.putfield 45, 3) := tb_d tk_X2_become_2 0 (75, .putfield 45, 3) rfl
theorem dX2_become_78 : decode cX2_become 78 = .ok (.aload_n 0, 1) := tb_d tk_X2_become_2 1 (78, .aload_n 0, 1) rfl
theorem dX2_become_79 : decode cX2_become 79 = .ok (.aload_n 1, 1) := tb_d tk_X2_become_2 2 (79, .aload_n 1, 1) rfl
theorem dX2_become_80 : decode cX2_become 80 = .ok (.getfield 48, 3) := tb_d tk_X2_become_2 3 (80, .getfield 48, 3) rfl
theorem dX2_become_83 : decode cX2_become 83 = .ok (.putfield 48, 3) := tb_d tk_X2_become_2 4 (83, .putfield 48, 3) rfl
theorem dX2_become_86 : decode cX2_become 86 = .ok (.return_, 1) := tb_d tk_X2_become_2 5 (86, .return_, 1) rfl
theorem ggX2_secretBy_X7_rest : GoodIn wsX2_secretBy wsX7_rest := fun w h => ⟨List.mem_cons_of_mem _ (List.mem_append_right _ (List.mem_append_right _ (List.mem_append_left _ h))), good_of_word (gdX7_rest w h)⟩
set_option maxRecDepth 20000 in
theorem gX2_secretBy_X7_rest_n51 : GoodIn wsX2_secretBy (wsX7_rest) := ggX2_secretBy_X7_rest
def tb_X2_secretBy_1 : List (Nat × Instr × Nat) := [(0, .iload 4, 2), (2, .bipush 7, 2), (4, .irem, 1), (5, .iload_n 3, 1), (6, .if_icmp .ne 7, 3), (9, .iconst 0, 1), (10, .goto 16, 3), (13, .iload_n 1, 1), (14, .iload_n 2, 1), (15, .iload 4, 2), (17, .imul, 1), (18, .iadd, 1), (19, .aload_n 0, 1), (20, .getfield 45, 3), (23, .invokestatic 51, 3), (26, .ireturn, 1)]
set_option maxRecDepth 100000 in
theorem tk_X2_secretBy_1 : (tb_X2_secretBy_1.all fun q => decide (decode cX2_secretBy q.1 = .ok q.2)) = true := by decide +kernel
theorem dX2_secretBy_0 : decode cX2_secretBy 0 = .ok (.iload 4, 2) := tb_d tk_X2_secretBy_1 0 (0, .iload 4, 2) rfl
theorem dX2_secretBy_2 : decode cX2_secretBy 2 = .ok (.bipush 7, 2) := tb_d tk_X2_secretBy_1 1 (2, .bipush 7, 2) rfl
theorem dX2_secretBy_4 : decode cX2_secretBy 4 = .ok (.irem, 1) := tb_d tk_X2_secretBy_1 2 (4, .irem, 1) rfl
theorem dX2_secretBy_5 : decode cX2_secretBy 5 = .ok (.iload_n 3, 1) := tb_d tk_X2_secretBy_1 3 (5, .iload_n 3, 1) rfl
theorem dX2_secretBy_6 : decode cX2_secretBy 6 = .ok (.if_icmp .ne 7, 3) := tb_d tk_X2_secretBy_1 4 (6, .if_icmp .ne 7, 3) rfl
theorem dX2_secretBy_9 : decode cX2_secretBy 9 = .ok (.iconst 0, 1) := tb_d tk_X2_secretBy_1 5 (9, .iconst 0, 1) rfl
theorem dX2_secretBy_10 : decode cX2_secretBy 10 = .ok (.goto 16, 3) := tb_d tk_X2_secretBy_1 6 (10, .goto 16, 3) rfl
theorem dX2_secretBy_13 : decode cX2_secretBy 13 = .ok (.iload_n 1, 1) := tb_d tk_X2_secretBy_1 7 (13, .iload_n 1, 1) rfl
theorem dX2_secretBy_14 : decode cX2_secretBy 14 = .ok (.iload_n 2, 1) := tb_d tk_X2_secretBy_1 8 (14, .iload_n 2, 1) rfl
theorem dX2_secretBy_15 : decode cX2_secretBy 15 = .ok (.iload 4, 2) := tb_d tk_X2_secretBy_1 9 (15, .iload 4, 2) rfl
theorem dX2_secretBy_17 : decode cX2_secretBy 17 = .ok (.imul, 1) := tb_d tk_X2_secretBy_1 10 (17, .imul, 1) rfl
theorem dX2_secretBy_18 : decode cX2_secretBy 18 = .ok (.iadd, 1) := tb_d tk_X2_secretBy_1 11 (18, .iadd, 1) rfl
theorem dX2_secretBy_19 : decode cX2_secretBy 19 = .ok (.aload_n 0, 1) := tb_d tk_X2_secretBy_1 12 (19, .aload_n 0, 1) rfl
theorem dX2_secretBy_20 : decode cX2_secretBy 20 = .ok (.getfield 45, 3) := tb_d tk_X2_secretBy_1 13 (20, .getfield 45, 3) rfl
theorem dX2_secretBy_23 : decode cX2_secretBy 23 = .ok (.invokestatic 51, 3) := tb_d tk_X2_secretBy_1 14 (23, .invokestatic 51, 3) rfl
theorem dX2_secretBy_26 : decode cX2_secretBy 26 = .ok (.ireturn, 1) := tb_d tk_X2_secretBy_1 15 (26, .ireturn, 1) rfl
theorem ggX2_secretIn_X2_secretBy : GoodIn wsX2_secretIn wsX2_secretBy := fun w h => ⟨List.mem_cons_of_mem _ (List.mem_append_right _ (List.mem_append_right _ (List.mem_append_right _ (List.mem_append_right _ (List.mem_append_left _ h))))), good_of_word (gdX2_secretBy w h)⟩
set_option maxRecDepth 20000 in
theorem gX2_secretIn_X2_secretBy : GoodIn wsX2_secretIn (wsV RX2 61 RX2 yX2_secretBy wsX2_secretBy) := goodIn_app (a := bkV RX2 61 RX2 yX2_secretBy) (fun w h => ⟨List.mem_cons_of_mem _ (List.mem_append_right _ (List.mem_append_left _ h)), good_of_word (gd_bV _ _ _ _ w h)⟩) ggX2_secretIn_X2_secretBy
def tb_X2_secretIn_1 : List (Nat × Instr × Nat) := [(0, .aload_n 0, 1), (1, .aload_n 0, 1), (2, .getfield 24, 3), (5, .getfield 55, 3), (8, .aload_n 0, 1), (9, .getfield 38, 3), (12, .aload_n 0, 1), (13, .getfield 42, 3), (16, .aload_n 0, 1), (17, .getfield 24, 3), (20, .getfield 58, 3), (23, .iload_n 1, 1), (24, .iadd, 1), (25, .invokevirtual 61, 3), (28, .ireturn, 1)]
set_option maxRecDepth 100000 in
theorem tk_X2_secretIn_1 : (tb_X2_secretIn_1.all fun q => decide (decode cX2_secretIn q.1 = .ok q.2)) = true := by decide +kernel
theorem dX2_secretIn_0 : decode cX2_secretIn 0 = .ok (.aload_n 0, 1) := tb_d tk_X2_secretIn_1 0 (0, .aload_n 0, 1) rfl
theorem dX2_secretIn_1 : decode cX2_secretIn 1 = .ok (.aload_n 0, 1) := tb_d tk_X2_secretIn_1 1 (1, .aload_n 0, 1) rfl
theorem dX2_secretIn_2 : decode cX2_secretIn 2 = .ok (.getfield 24, 3) := tb_d tk_X2_secretIn_1 2 (2, .getfield 24, 3) rfl
theorem dX2_secretIn_5 : decode cX2_secretIn 5 = .ok (.getfield 55, 3) := tb_d tk_X2_secretIn_1 3 (5, .getfield 55, 3) rfl
theorem dX2_secretIn_8 : decode cX2_secretIn 8 = .ok (.aload_n 0, 1) := tb_d tk_X2_secretIn_1 4 (8, .aload_n 0, 1) rfl
theorem dX2_secretIn_9 : decode cX2_secretIn 9 = .ok (.getfield 38, 3) := tb_d tk_X2_secretIn_1 5 (9, .getfield 38, 3) rfl
theorem dX2_secretIn_12 : decode cX2_secretIn 12 = .ok (.aload_n 0, 1) := tb_d tk_X2_secretIn_1 6 (12, .aload_n 0, 1) rfl
theorem dX2_secretIn_13 : decode cX2_secretIn 13 = .ok (.getfield 42, 3) := tb_d tk_X2_secretIn_1 7 (13, .getfield 42, 3) rfl
theorem dX2_secretIn_16 : decode cX2_secretIn 16 = .ok (.aload_n 0, 1) := tb_d tk_X2_secretIn_1 8 (16, .aload_n 0, 1) rfl
theorem dX2_secretIn_17 : decode cX2_secretIn 17 = .ok (.getfield 24, 3) := tb_d tk_X2_secretIn_1 9 (17, .getfield 24, 3) rfl
theorem dX2_secretIn_20 : decode cX2_secretIn 20 = .ok (.getfield 58, 3) := tb_d tk_X2_secretIn_1 10 (20, .getfield 58, 3) rfl
theorem dX2_secretIn_23 : decode cX2_secretIn 23 = .ok (.iload_n 1, 1) := tb_d tk_X2_secretIn_1 11 (23, .iload_n 1, 1) rfl
theorem dX2_secretIn_24 : decode cX2_secretIn 24 = .ok (.iadd, 1) := tb_d tk_X2_secretIn_1 12 (24, .iadd, 1) rfl
theorem dX2_secretIn_25 : decode cX2_secretIn 25 = .ok (.invokevirtual 61, 3) := tb_d tk_X2_secretIn_1 13 (25, .invokevirtual 61, 3) rfl
theorem dX2_secretIn_28 : decode cX2_secretIn 28 = .ok (.ireturn, 1) := tb_d tk_X2_secretIn_1 14 (28, .ireturn, 1) rfl
def tb_X2_distance_1 : List (Nat × Instr × Nat) := [(0, .iconst 0, 1), (1, .istore_n 3, 1), (2, .iconst 0, 1), (3, .istore 4, 2), (5, .iload 4, 2), (7, .iconst 3, 1), (8, .if_icmp .ge 37, 3), (11, .aload_n 0, 1), (12, .getfield 9, 3), (15, .iload_n 1, 1), (16, .iconst 3, 1), (17, .imul, 1), (18, .iload 4, 2), (20, .iadd, 1), (21, .iaload, 1), (22, .aload_n 0, 1), (23, .getfield 9, 3), (26, .iload_n 2, 1), (27, .iconst 3, 1), (28, .imul, 1), (29, .iload 4, 2), (31, .iadd, 1), (32, .iaload, 1), (33, .if_icmp .eq 6, 3), (36, .iinc 3 1, 3), (39, .iinc 4 1, 3), (42, .goto (-37), 3), (45, .iload_n 3, 1), (46, .ireturn, 1)]
set_option maxRecDepth 100000 in
theorem tk_X2_distance_1 : (tb_X2_distance_1.all fun q => decide (decode cX2_distance q.1 = .ok q.2)) = true := by decide +kernel
theorem dX2_distance_0 : decode cX2_distance 0 = .ok (.iconst 0, 1) := tb_d tk_X2_distance_1 0 (0, .iconst 0, 1) rfl
theorem dX2_distance_1 : decode cX2_distance 1 = .ok (.istore_n 3, 1) := tb_d tk_X2_distance_1 1 (1, .istore_n 3, 1) rfl
theorem dX2_distance_2 : decode cX2_distance 2 = .ok (.iconst 0, 1) := tb_d tk_X2_distance_1 2 (2, .iconst 0, 1) rfl
theorem dX2_distance_3 : decode cX2_distance 3 = .ok (.istore 4, 2) := tb_d tk_X2_distance_1 3 (3, .istore 4, 2) rfl
theorem dX2_distance_5 : decode cX2_distance 5 = .ok (.iload 4, 2) := tb_d tk_X2_distance_1 4 (5, .iload 4, 2) rfl
theorem dX2_distance_7 : decode cX2_distance 7 = .ok (.iconst 3, 1) := tb_d tk_X2_distance_1 5 (7, .iconst 3, 1) rfl
theorem dX2_distance_8 : decode cX2_distance 8 = .ok (.if_icmp .ge 37, 3) := tb_d tk_X2_distance_1 6 (8, .if_icmp .ge 37, 3) rfl
theorem dX2_distance_11 : decode cX2_distance 11 = .ok (.aload_n 0, 1) := tb_d tk_X2_distance_1 7 (11, .aload_n 0, 1) rfl
theorem dX2_distance_12 : decode cX2_distance 12 = .ok (.getfield 9, 3) := tb_d tk_X2_distance_1 8 (12, .getfield 9, 3) rfl
theorem dX2_distance_15 : decode cX2_distance 15 = .ok (.iload_n 1, 1) := tb_d tk_X2_distance_1 9 (15, .iload_n 1, 1) rfl
theorem dX2_distance_16 : decode cX2_distance 16 = .ok (.iconst 3, 1) := tb_d tk_X2_distance_1 10 (16, .iconst 3, 1) rfl
theorem dX2_distance_17 : decode cX2_distance 17 = .ok (.imul, 1) := tb_d tk_X2_distance_1 11 (17, .imul, 1) rfl
theorem dX2_distance_18 : decode cX2_distance 18 = .ok (.iload 4, 2) := tb_d tk_X2_distance_1 12 (18, .iload 4, 2) rfl
theorem dX2_distance_20 : decode cX2_distance 20 = .ok (.iadd, 1) := tb_d tk_X2_distance_1 13 (20, .iadd, 1) rfl
theorem dX2_distance_21 : decode cX2_distance 21 = .ok (.iaload, 1) := tb_d tk_X2_distance_1 14 (21, .iaload, 1) rfl
theorem dX2_distance_22 : decode cX2_distance 22 = .ok (.aload_n 0, 1) := tb_d tk_X2_distance_1 15 (22, .aload_n 0, 1) rfl
theorem dX2_distance_23 : decode cX2_distance 23 = .ok (.getfield 9, 3) := tb_d tk_X2_distance_1 16 (23, .getfield 9, 3) rfl
theorem dX2_distance_26 : decode cX2_distance 26 = .ok (.iload_n 2, 1) := tb_d tk_X2_distance_1 17 (26, .iload_n 2, 1) rfl
theorem dX2_distance_27 : decode cX2_distance 27 = .ok (.iconst 3, 1) := tb_d tk_X2_distance_1 18 (27, .iconst 3, 1) rfl
theorem dX2_distance_28 : decode cX2_distance 28 = .ok (.imul, 1) := tb_d tk_X2_distance_1 19 (28, .imul, 1) rfl
theorem dX2_distance_29 : decode cX2_distance 29 = .ok (.iload 4, 2) := tb_d tk_X2_distance_1 20 (29, .iload 4, 2) rfl
theorem dX2_distance_31 : decode cX2_distance 31 = .ok (.iadd, 1) := tb_d tk_X2_distance_1 21 (31, .iadd, 1) rfl
theorem dX2_distance_32 : decode cX2_distance 32 = .ok (.iaload, 1) := tb_d tk_X2_distance_1 22 (32, .iaload, 1) rfl
theorem dX2_distance_33 : decode cX2_distance 33 = .ok (.if_icmp .eq 6, 3) := tb_d tk_X2_distance_1 23 (33, .if_icmp .eq 6, 3) rfl
theorem dX2_distance_36 : decode cX2_distance 36 = .ok (.iinc 3 1, 3) := tb_d tk_X2_distance_1 24 (36, .iinc 3 1, 3) rfl
theorem dX2_distance_39 : decode cX2_distance 39 = .ok (.iinc 4 1, 3) := tb_d tk_X2_distance_1 25 (39, .iinc 4 1, 3) rfl
theorem dX2_distance_42 : decode cX2_distance 42 = .ok (.goto (-37), 3) := tb_d tk_X2_distance_1 26 (42, .goto (-37), 3) rfl
theorem dX2_distance_45 : decode cX2_distance 45 = .ok (.iload_n 3, 1) := tb_d tk_X2_distance_1 27 (45, .iload_n 3, 1) rfl
theorem dX2_distance_46 : decode cX2_distance 46 = .ok (.ireturn, 1) := tb_d tk_X2_distance_1 28 (46, .ireturn, 1) rfl
def tb_X2_lips_1 : List (Nat × Instr × Nat) := [(0, .iconst 0, 1), (1, .istore_n 3, 1), (2, .iconst 0, 1), (3, .istore 4, 2), (5, .iload 4, 2), (7, .iconst 3, 1), (8, .if_icmp .ge 41, 3), (11, .aload_n 0, 1), (12, .getfield 9, 3), (15, .iload_n 1, 1), (16, .iconst 3, 1), (17, .imul, 1), (18, .iload 4, 2), (20, .iadd, 1), (21, .iaload, 1), (22, .iconst 5, 1), (23, .irem, 1), (24, .aload_n 0, 1), (25, .getfield 9, 3), (28, .iload_n 2, 1), (29, .iconst 3, 1), (30, .imul, 1), (31, .iload 4, 2), (33, .iadd, 1), (34, .iaload, 1), (35, .iconst 5, 1), (36, .irem, 1), (37, .if_icmp .ne 6, 3), (40, .iinc 3 1, 3), (43, .iinc 4 1, 3), (46, .goto (-41), 3), (49, .iload_n 3, 1), (50, .ireturn, 1)]
set_option maxRecDepth 100000 in
theorem tk_X2_lips_1 : (tb_X2_lips_1.all fun q => decide (decode cX2_lips q.1 = .ok q.2)) = true := by decide +kernel
theorem dX2_lips_0 : decode cX2_lips 0 = .ok (.iconst 0, 1) := tb_d tk_X2_lips_1 0 (0, .iconst 0, 1) rfl
theorem dX2_lips_1 : decode cX2_lips 1 = .ok (.istore_n 3, 1) := tb_d tk_X2_lips_1 1 (1, .istore_n 3, 1) rfl
theorem dX2_lips_2 : decode cX2_lips 2 = .ok (.iconst 0, 1) := tb_d tk_X2_lips_1 2 (2, .iconst 0, 1) rfl
theorem dX2_lips_3 : decode cX2_lips 3 = .ok (.istore 4, 2) := tb_d tk_X2_lips_1 3 (3, .istore 4, 2) rfl
theorem dX2_lips_5 : decode cX2_lips 5 = .ok (.iload 4, 2) := tb_d tk_X2_lips_1 4 (5, .iload 4, 2) rfl
theorem dX2_lips_7 : decode cX2_lips 7 = .ok (.iconst 3, 1) := tb_d tk_X2_lips_1 5 (7, .iconst 3, 1) rfl
theorem dX2_lips_8 : decode cX2_lips 8 = .ok (.if_icmp .ge 41, 3) := tb_d tk_X2_lips_1 6 (8, .if_icmp .ge 41, 3) rfl
theorem dX2_lips_11 : decode cX2_lips 11 = .ok (.aload_n 0, 1) := tb_d tk_X2_lips_1 7 (11, .aload_n 0, 1) rfl
theorem dX2_lips_12 : decode cX2_lips 12 = .ok (.getfield 9, 3) := tb_d tk_X2_lips_1 8 (12, .getfield 9, 3) rfl
theorem dX2_lips_15 : decode cX2_lips 15 = .ok (.iload_n 1, 1) := tb_d tk_X2_lips_1 9 (15, .iload_n 1, 1) rfl
theorem dX2_lips_16 : decode cX2_lips 16 = .ok (.iconst 3, 1) := tb_d tk_X2_lips_1 10 (16, .iconst 3, 1) rfl
theorem dX2_lips_17 : decode cX2_lips 17 = .ok (.imul, 1) := tb_d tk_X2_lips_1 11 (17, .imul, 1) rfl
theorem dX2_lips_18 : decode cX2_lips 18 = .ok (.iload 4, 2) := tb_d tk_X2_lips_1 12 (18, .iload 4, 2) rfl
theorem dX2_lips_20 : decode cX2_lips 20 = .ok (.iadd, 1) := tb_d tk_X2_lips_1 13 (20, .iadd, 1) rfl
theorem dX2_lips_21 : decode cX2_lips 21 = .ok (.iaload, 1) := tb_d tk_X2_lips_1 14 (21, .iaload, 1) rfl
theorem dX2_lips_22 : decode cX2_lips 22 = .ok (.iconst 5, 1) := tb_d tk_X2_lips_1 15 (22, .iconst 5, 1) rfl
theorem dX2_lips_23 : decode cX2_lips 23 = .ok (.irem, 1) := tb_d tk_X2_lips_1 16 (23, .irem, 1) rfl
theorem dX2_lips_24 : decode cX2_lips 24 = .ok (.aload_n 0, 1) := tb_d tk_X2_lips_1 17 (24, .aload_n 0, 1) rfl
theorem dX2_lips_25 : decode cX2_lips 25 = .ok (.getfield 9, 3) := tb_d tk_X2_lips_1 18 (25, .getfield 9, 3) rfl
theorem dX2_lips_28 : decode cX2_lips 28 = .ok (.iload_n 2, 1) := tb_d tk_X2_lips_1 19 (28, .iload_n 2, 1) rfl
theorem dX2_lips_29 : decode cX2_lips 29 = .ok (.iconst 3, 1) := tb_d tk_X2_lips_1 20 (29, .iconst 3, 1) rfl
theorem dX2_lips_30 : decode cX2_lips 30 = .ok (.imul, 1) := tb_d tk_X2_lips_1 21 (30, .imul, 1) rfl
theorem dX2_lips_31 : decode cX2_lips 31 = .ok (.iload 4, 2) := tb_d tk_X2_lips_1 22 (31, .iload 4, 2) rfl
theorem dX2_lips_33 : decode cX2_lips 33 = .ok (.iadd, 1) := tb_d tk_X2_lips_1 23 (33, .iadd, 1) rfl
theorem dX2_lips_34 : decode cX2_lips 34 = .ok (.iaload, 1) := tb_d tk_X2_lips_1 24 (34, .iaload, 1) rfl
theorem dX2_lips_35 : decode cX2_lips 35 = .ok (.iconst 5, 1) := tb_d tk_X2_lips_1 25 (35, .iconst 5, 1) rfl
theorem dX2_lips_36 : decode cX2_lips 36 = .ok (.irem, 1) := tb_d tk_X2_lips_1 26 (36, .irem, 1) rfl
theorem dX2_lips_37 : decode cX2_lips 37 = .ok (.if_icmp .ne 6, 3) := tb_d tk_X2_lips_1 27 (37, .if_icmp .ne 6, 3) rfl
theorem dX2_lips_40 : decode cX2_lips 40 = .ok (.iinc 3 1, 3) := tb_d tk_X2_lips_1 28 (40, .iinc 3 1, 3) rfl
theorem dX2_lips_43 : decode cX2_lips 43 = .ok (.iinc 4 1, 3) := tb_d tk_X2_lips_1 29 (43, .iinc 4 1, 3) rfl
theorem dX2_lips_46 : decode cX2_lips 46 = .ok (.goto (-41), 3) := tb_d tk_X2_lips_1 30 (46, .goto (-41), 3) rfl
theorem dX2_lips_49 : decode cX2_lips 49 = .ok (.iload_n 3, 1) := tb_d tk_X2_lips_1 31 (49, .iload_n 3, 1) rfl
theorem dX2_lips_50 : decode cX2_lips 50 = .ok (.ireturn, 1) := tb_d tk_X2_lips_1 32 (50, .ireturn, 1) rfl
theorem ggX2_guardOn_X7_rest : GoodIn wsX2_guardOn wsX7_rest := fun w h => ⟨List.mem_cons_of_mem _ (List.mem_append_right _ (List.mem_append_right _ (List.mem_append_left _ h))), good_of_word (gdX7_rest w h)⟩
set_option maxRecDepth 20000 in
theorem gX2_guardOn_X7_rest_n51 : GoodIn wsX2_guardOn (wsX7_rest) := ggX2_guardOn_X7_rest
def tb_X2_guardOn_1 : List (Nat × Instr × Nat) := [(0, .iload_n 1, 1), (1, .iload_n 2, 1), (2, .iadd, 1), (3, .aload_n 0, 1), (4, .getfield 48, 3), (7, .invokestatic 51, 3), (10, .ireturn, 1)]
set_option maxRecDepth 100000 in
theorem tk_X2_guardOn_1 : (tb_X2_guardOn_1.all fun q => decide (decode cX2_guardOn q.1 = .ok q.2)) = true := by decide +kernel
theorem dX2_guardOn_0 : decode cX2_guardOn 0 = .ok (.iload_n 1, 1) := tb_d tk_X2_guardOn_1 0 (0, .iload_n 1, 1) rfl
theorem dX2_guardOn_1 : decode cX2_guardOn 1 = .ok (.iload_n 2, 1) := tb_d tk_X2_guardOn_1 1 (1, .iload_n 2, 1) rfl
theorem dX2_guardOn_2 : decode cX2_guardOn 2 = .ok (.iadd, 1) := tb_d tk_X2_guardOn_1 2 (2, .iadd, 1) rfl
theorem dX2_guardOn_3 : decode cX2_guardOn 3 = .ok (.aload_n 0, 1) := tb_d tk_X2_guardOn_1 3 (3, .aload_n 0, 1) rfl
theorem dX2_guardOn_4 : decode cX2_guardOn 4 = .ok (.getfield 48, 3) := tb_d tk_X2_guardOn_1 4 (4, .getfield 48, 3) rfl
theorem dX2_guardOn_7 : decode cX2_guardOn 7 = .ok (.invokestatic 51, 3) := tb_d tk_X2_guardOn_1 5 (7, .invokestatic 51, 3) rfl
theorem dX2_guardOn_10 : decode cX2_guardOn 10 = .ok (.ireturn, 1) := tb_d tk_X2_guardOn_1 6 (10, .ireturn, 1) rfl
def tb_X2_isThere_1 : List (Nat × Instr × Nat) := [(0, .aload_n 0, 1), (1, .getfield 24, 3), (4, .getfield 65, 3), (7, .iload_n 1, 1), (8, .ishr, 1), (9, .iconst 1, 1), (10, .iand, 1), (11, .iconst 1, 1), (12, .if_icmp .ne 7, 3), (15, .iconst 1, 1), (16, .goto 4, 3), (19, .iconst 0, 1), (20, .ireturn, 1)]
set_option maxRecDepth 100000 in
theorem tk_X2_isThere_1 : (tb_X2_isThere_1.all fun q => decide (decode cX2_isThere q.1 = .ok q.2)) = true := by decide +kernel
theorem dX2_isThere_0 : decode cX2_isThere 0 = .ok (.aload_n 0, 1) := tb_d tk_X2_isThere_1 0 (0, .aload_n 0, 1) rfl
theorem dX2_isThere_1 : decode cX2_isThere 1 = .ok (.getfield 24, 3) := tb_d tk_X2_isThere_1 1 (1, .getfield 24, 3) rfl
theorem dX2_isThere_4 : decode cX2_isThere 4 = .ok (.getfield 65, 3) := tb_d tk_X2_isThere_1 2 (4, .getfield 65, 3) rfl
theorem dX2_isThere_7 : decode cX2_isThere 7 = .ok (.iload_n 1, 1) := tb_d tk_X2_isThere_1 3 (7, .iload_n 1, 1) rfl
theorem dX2_isThere_8 : decode cX2_isThere 8 = .ok (.ishr, 1) := tb_d tk_X2_isThere_1 4 (8, .ishr, 1) rfl
theorem dX2_isThere_9 : decode cX2_isThere 9 = .ok (.iconst 1, 1) := tb_d tk_X2_isThere_1 5 (9, .iconst 1, 1) rfl
theorem dX2_isThere_10 : decode cX2_isThere 10 = .ok (.iand, 1) := tb_d tk_X2_isThere_1 6 (10, .iand, 1) rfl
theorem dX2_isThere_11 : decode cX2_isThere 11 = .ok (.iconst 1, 1) := tb_d tk_X2_isThere_1 7 (11, .iconst 1, 1) rfl
theorem dX2_isThere_12 : decode cX2_isThere 12 = .ok (.if_icmp .ne 7, 3) := tb_d tk_X2_isThere_1 8 (12, .if_icmp .ne 7, 3) rfl
theorem dX2_isThere_15 : decode cX2_isThere 15 = .ok (.iconst 1, 1) := tb_d tk_X2_isThere_1 9 (15, .iconst 1, 1) rfl
theorem dX2_isThere_16 : decode cX2_isThere 16 = .ok (.goto 4, 3) := tb_d tk_X2_isThere_1 10 (16, .goto 4, 3) rfl
theorem dX2_isThere_19 : decode cX2_isThere 19 = .ok (.iconst 0, 1) := tb_d tk_X2_isThere_1 11 (19, .iconst 0, 1) rfl
theorem dX2_isThere_20 : decode cX2_isThere 20 = .ok (.ireturn, 1) := tb_d tk_X2_isThere_1 12 (20, .ireturn, 1) rfl
theorem ggX2_wouldTake_X2_distance : GoodIn wsX2_wouldTake wsX2_distance := fun w h => ⟨List.mem_cons_of_mem _ (List.mem_append_right _ (List.mem_append_right _ (List.mem_append_right _ (List.mem_append_right _ (List.mem_append_left _ h))))), good_of_word (gdX2_distance w h)⟩
set_option maxRecDepth 20000 in
theorem gX2_wouldTake_X2_distance : GoodIn wsX2_wouldTake (wsV RX2 68 RX2 yX2_distance wsX2_distance) := goodIn_app (a := bkV RX2 68 RX2 yX2_distance) (fun w h => ⟨List.mem_cons_of_mem _ (List.mem_append_right _ (List.mem_append_left _ h)), good_of_word (gd_bV _ _ _ _ w h)⟩) ggX2_wouldTake_X2_distance
theorem ggX2_wouldTake_X2_lips : GoodIn wsX2_wouldTake wsX2_lips := fun w h => ⟨List.mem_cons_of_mem _ (List.mem_append_right _ (List.mem_append_right _ (List.mem_append_right _ (List.mem_append_right _ (List.mem_append_right _ (List.mem_append_left _ h)))))), good_of_word (gdX2_lips w h)⟩
set_option maxRecDepth 20000 in
theorem gX2_wouldTake_X2_lips : GoodIn wsX2_wouldTake (wsV RX2 71 RX2 yX2_lips wsX2_lips) := goodIn_app (a := bkV RX2 71 RX2 yX2_lips) (fun w h => ⟨List.mem_cons_of_mem _ (List.mem_append_right _ (List.mem_append_right _ (List.mem_append_left _ h))), good_of_word (gd_bV _ _ _ _ w h)⟩) ggX2_wouldTake_X2_lips
def tb_X2_wouldTake_1 : List (Nat × Instr × Nat) := [(0, .iload_n 1, 1), (1, .tableswitch 120 1 5 #[35, 50, 66, 88, 104], 35), (36, .aload_n 0, 1), (37, .iload_n 2, 1), (38, .iload_n 3, 1), (39, .invokevirtual 68, 3), (42, .ifCond .ne 7, 3), (45, .iconst 1, 1), (46, .goto 4, 3), (49, .iconst 0, 1), (50, .ireturn, 1), (51, .aload_n 0, 1), (52, .iload_n 2, 1), (53, .iload_n 3, 1), (54, .invokevirtual 68, 3), (57, .iconst 1, 1), (58, .if_icmp .gt 7, 3), (61, .iconst 1, 1), (62, .goto 4, 3), (65, .iconst 0, 1), (66, .ireturn, 1), (67, .iload 4, 2), (69, .iconst 2, 1), (70, .irem, 1), (71, .ifCond .ne 16, 3), (74, .aload_n 0, 1), (75, .iload_n 2, 1), (76, .iload_n 3, 1), (77, .invokevirtual 68, 3), (80, .ifCond .ne 7, 3), (83, .iconst 1, 1), (84, .goto 4, 3), (87, .iconst 0, 1), (88, .ireturn, 1), (89, .aload_n 0, 1), (90, .iload_n 2, 1), (91, .iload_n 3, 1), (92, .invokevirtual 71, 3), (95, .iconst 3, 1), (96, .if_icmp .ne 7, 3)]
set_option maxRecDepth 100000 in
theorem tk_X2_wouldTake_1 : (tb_X2_wouldTake_1.all fun q => decide (decode cX2_wouldTake q.1 = .ok q.2)) = true := by decide +kernel
theorem dX2_wouldTake_0 : decode cX2_wouldTake 0 = .ok (.iload_n 1, 1) := tb_d tk_X2_wouldTake_1 0 (0, .iload_n 1, 1) rfl
theorem dX2_wouldTake_1 : decode cX2_wouldTake 1 = .ok (.tableswitch 120 1 5 #[35, 50, 66, 88, 104], 35) := tb_d tk_X2_wouldTake_1 1 (1, .tableswitch 120 1 5 #[35, 50, 66, 88, 104], 35) rfl
theorem dX2_wouldTake_36 : decode cX2_wouldTake 36 = .ok (.aload_n 0, 1) := tb_d tk_X2_wouldTake_1 2 (36, .aload_n 0, 1) rfl
theorem dX2_wouldTake_37 : decode cX2_wouldTake 37 = .ok (.iload_n 2, 1) := tb_d tk_X2_wouldTake_1 3 (37, .iload_n 2, 1) rfl
theorem dX2_wouldTake_38 : decode cX2_wouldTake 38 = .ok (.iload_n 3, 1) := tb_d tk_X2_wouldTake_1 4 (38, .iload_n 3, 1) rfl
theorem dX2_wouldTake_39 : decode cX2_wouldTake 39 = .ok (.invokevirtual 68, 3) := tb_d tk_X2_wouldTake_1 5 (39, .invokevirtual 68, 3) rfl
theorem dX2_wouldTake_42 : decode cX2_wouldTake 42 = .ok (.ifCond .ne 7, 3) := tb_d tk_X2_wouldTake_1 6 (42, .ifCond .ne 7, 3) rfl
theorem dX2_wouldTake_45 : decode cX2_wouldTake 45 = .ok (.iconst 1, 1) := tb_d tk_X2_wouldTake_1 7 (45, .iconst 1, 1) rfl
theorem dX2_wouldTake_46 : decode cX2_wouldTake 46 = .ok (.goto 4, 3) := tb_d tk_X2_wouldTake_1 8 (46, .goto 4, 3) rfl
theorem dX2_wouldTake_49 : decode cX2_wouldTake 49 = .ok (.iconst 0, 1) := tb_d tk_X2_wouldTake_1 9 (49, .iconst 0, 1) rfl
theorem dX2_wouldTake_50 : decode cX2_wouldTake 50 = .ok (.ireturn, 1) := tb_d tk_X2_wouldTake_1 10 (50, .ireturn, 1) rfl
theorem dX2_wouldTake_51 : decode cX2_wouldTake 51 = .ok (.aload_n 0, 1) := tb_d tk_X2_wouldTake_1 11 (51, .aload_n 0, 1) rfl
theorem dX2_wouldTake_52 : decode cX2_wouldTake 52 = .ok (.iload_n 2, 1) := tb_d tk_X2_wouldTake_1 12 (52, .iload_n 2, 1) rfl
theorem dX2_wouldTake_53 : decode cX2_wouldTake 53 = .ok (.iload_n 3, 1) := tb_d tk_X2_wouldTake_1 13 (53, .iload_n 3, 1) rfl
theorem dX2_wouldTake_54 : decode cX2_wouldTake 54 = .ok (.invokevirtual 68, 3) := tb_d tk_X2_wouldTake_1 14 (54, .invokevirtual 68, 3) rfl
theorem dX2_wouldTake_57 : decode cX2_wouldTake 57 = .ok (.iconst 1, 1) := tb_d tk_X2_wouldTake_1 15 (57, .iconst 1, 1) rfl
theorem dX2_wouldTake_58 : decode cX2_wouldTake 58 = .ok (.if_icmp .gt 7, 3) := tb_d tk_X2_wouldTake_1 16 (58, .if_icmp .gt 7, 3) rfl
theorem dX2_wouldTake_61 : decode cX2_wouldTake 61 = .ok (.iconst 1, 1) := tb_d tk_X2_wouldTake_1 17 (61, .iconst 1, 1) rfl
theorem dX2_wouldTake_62 : decode cX2_wouldTake 62 = .ok (.goto 4, 3) := tb_d tk_X2_wouldTake_1 18 (62, .goto 4, 3) rfl
theorem dX2_wouldTake_65 : decode cX2_wouldTake 65 = .ok (.iconst 0, 1) := tb_d tk_X2_wouldTake_1 19 (65, .iconst 0, 1) rfl
theorem dX2_wouldTake_66 : decode cX2_wouldTake 66 = .ok (.ireturn, 1) := tb_d tk_X2_wouldTake_1 20 (66, .ireturn, 1) rfl
theorem dX2_wouldTake_67 : decode cX2_wouldTake 67 = .ok (.iload 4, 2) := tb_d tk_X2_wouldTake_1 21 (67, .iload 4, 2) rfl
theorem dX2_wouldTake_69 : decode cX2_wouldTake 69 = .ok (.iconst 2, 1) := tb_d tk_X2_wouldTake_1 22 (69, .iconst 2, 1) rfl
theorem dX2_wouldTake_70 : decode cX2_wouldTake 70 = .ok (.irem, 1) := tb_d tk_X2_wouldTake_1 23 (70, .irem, 1) rfl
theorem dX2_wouldTake_71 : decode cX2_wouldTake 71 = .ok (.ifCond .ne 16, 3) := tb_d tk_X2_wouldTake_1 24 (71, .ifCond .ne 16, 3) rfl
theorem dX2_wouldTake_74 : decode cX2_wouldTake 74 = .ok (.aload_n 0, 1) := tb_d tk_X2_wouldTake_1 25 (74, .aload_n 0, 1) rfl
theorem dX2_wouldTake_75 : decode cX2_wouldTake 75 = .ok (.iload_n 2, 1) := tb_d tk_X2_wouldTake_1 26 (75, .iload_n 2, 1) rfl
theorem dX2_wouldTake_76 : decode cX2_wouldTake 76 = .ok (.iload_n 3, 1) := tb_d tk_X2_wouldTake_1 27 (76, .iload_n 3, 1) rfl
theorem dX2_wouldTake_77 : decode cX2_wouldTake 77 = .ok (.invokevirtual 68, 3) := tb_d tk_X2_wouldTake_1 28 (77, .invokevirtual 68, 3) rfl
theorem dX2_wouldTake_80 : decode cX2_wouldTake 80 = .ok (.ifCond .ne 7, 3) := tb_d tk_X2_wouldTake_1 29 (80, .ifCond .ne 7, 3) rfl
theorem dX2_wouldTake_83 : decode cX2_wouldTake 83 = .ok (.iconst 1, 1) := tb_d tk_X2_wouldTake_1 30 (83, .iconst 1, 1) rfl
theorem dX2_wouldTake_84 : decode cX2_wouldTake 84 = .ok (.goto 4, 3) := tb_d tk_X2_wouldTake_1 31 (84, .goto 4, 3) rfl
theorem dX2_wouldTake_87 : decode cX2_wouldTake 87 = .ok (.iconst 0, 1) := tb_d tk_X2_wouldTake_1 32 (87, .iconst 0, 1) rfl
theorem dX2_wouldTake_88 : decode cX2_wouldTake 88 = .ok (.ireturn, 1) := tb_d tk_X2_wouldTake_1 33 (88, .ireturn, 1) rfl
theorem dX2_wouldTake_89 : decode cX2_wouldTake 89 = .ok (.aload_n 0, 1) := tb_d tk_X2_wouldTake_1 34 (89, .aload_n 0, 1) rfl
theorem dX2_wouldTake_90 : decode cX2_wouldTake 90 = .ok (.iload_n 2, 1) := tb_d tk_X2_wouldTake_1 35 (90, .iload_n 2, 1) rfl
theorem dX2_wouldTake_91 : decode cX2_wouldTake 91 = .ok (.iload_n 3, 1) := tb_d tk_X2_wouldTake_1 36 (91, .iload_n 3, 1) rfl
theorem dX2_wouldTake_92 : decode cX2_wouldTake 92 = .ok (.invokevirtual 71, 3) := tb_d tk_X2_wouldTake_1 37 (92, .invokevirtual 71, 3) rfl
theorem dX2_wouldTake_95 : decode cX2_wouldTake 95 = .ok (.iconst 3, 1) := tb_d tk_X2_wouldTake_1 38 (95, .iconst 3, 1) rfl
theorem dX2_wouldTake_96 : decode cX2_wouldTake 96 = .ok (.if_icmp .ne 7, 3) := tb_d tk_X2_wouldTake_1 39 (96, .if_icmp .ne 7, 3) rfl
def tb_X2_wouldTake_2 : List (Nat × Instr × Nat) := [(99, .iconst 1, 1), (100, .goto 4, 3), (103, .iconst 0, 1), (104, .ireturn, 1), (105, .aload_n 0, 1), (106, .iload_n 2, 1), (107, .iload_n 3, 1), (108, .invokevirtual 71, 3), (111, .iconst 2, 1), (112, .if_icmp .lt 7, 3), (115, .iconst 1, 1), (116, .goto 4, 3), (119, .iconst 0, 1), (120, .ireturn, 1), (121, .iconst 0, 1), (122, .ireturn, 1)]
set_option maxRecDepth 100000 in
theorem tk_X2_wouldTake_2 : (tb_X2_wouldTake_2.all fun q => decide (decode cX2_wouldTake q.1 = .ok q.2)) = true := by decide +kernel
theorem dX2_wouldTake_99 : decode cX2_wouldTake 99 = .ok (.iconst 1, 1) := tb_d tk_X2_wouldTake_2 0 (99, .iconst 1, 1) rfl
theorem dX2_wouldTake_100 : decode cX2_wouldTake 100 = .ok (.goto 4, 3) := tb_d tk_X2_wouldTake_2 1 (100, .goto 4, 3) rfl
theorem dX2_wouldTake_103 : decode cX2_wouldTake 103 = .ok (.iconst 0, 1) := tb_d tk_X2_wouldTake_2 2 (103, .iconst 0, 1) rfl
theorem dX2_wouldTake_104 : decode cX2_wouldTake 104 = .ok (.ireturn, 1) := tb_d tk_X2_wouldTake_2 3 (104, .ireturn, 1) rfl
theorem dX2_wouldTake_105 : decode cX2_wouldTake 105 = .ok (.aload_n 0, 1) := tb_d tk_X2_wouldTake_2 4 (105, .aload_n 0, 1) rfl
theorem dX2_wouldTake_106 : decode cX2_wouldTake 106 = .ok (.iload_n 2, 1) := tb_d tk_X2_wouldTake_2 5 (106, .iload_n 2, 1) rfl
theorem dX2_wouldTake_107 : decode cX2_wouldTake 107 = .ok (.iload_n 3, 1) := tb_d tk_X2_wouldTake_2 6 (107, .iload_n 3, 1) rfl
theorem dX2_wouldTake_108 : decode cX2_wouldTake 108 = .ok (.invokevirtual 71, 3) := tb_d tk_X2_wouldTake_2 7 (108, .invokevirtual 71, 3) rfl
theorem dX2_wouldTake_111 : decode cX2_wouldTake 111 = .ok (.iconst 2, 1) := tb_d tk_X2_wouldTake_2 8 (111, .iconst 2, 1) rfl
theorem dX2_wouldTake_112 : decode cX2_wouldTake 112 = .ok (.if_icmp .lt 7, 3) := tb_d tk_X2_wouldTake_2 9 (112, .if_icmp .lt 7, 3) rfl
theorem dX2_wouldTake_115 : decode cX2_wouldTake 115 = .ok (.iconst 1, 1) := tb_d tk_X2_wouldTake_2 10 (115, .iconst 1, 1) rfl
theorem dX2_wouldTake_116 : decode cX2_wouldTake 116 = .ok (.goto 4, 3) := tb_d tk_X2_wouldTake_2 11 (116, .goto 4, 3) rfl
theorem dX2_wouldTake_119 : decode cX2_wouldTake 119 = .ok (.iconst 0, 1) := tb_d tk_X2_wouldTake_2 12 (119, .iconst 0, 1) rfl
theorem dX2_wouldTake_120 : decode cX2_wouldTake 120 = .ok (.ireturn, 1) := tb_d tk_X2_wouldTake_2 13 (120, .ireturn, 1) rfl
theorem dX2_wouldTake_121 : decode cX2_wouldTake 121 = .ok (.iconst 0, 1) := tb_d tk_X2_wouldTake_2 14 (121, .iconst 0, 1) rfl
theorem dX2_wouldTake_122 : decode cX2_wouldTake 122 = .ok (.ireturn, 1) := tb_d tk_X2_wouldTake_2 15 (122, .ireturn, 1) rfl
theorem ggX2_catchesIf_X2_guardOn : GoodIn wsX2_catchesIf wsX2_guardOn := fun w h => ⟨List.mem_cons_of_mem _ (List.mem_append_right _ (List.mem_append_right _ (List.mem_append_right _ (List.mem_append_right _ (List.mem_append_right _ (List.mem_append_right _ (List.mem_append_left _ h))))))), good_of_word (gdX2_guardOn w h)⟩
set_option maxRecDepth 20000 in
theorem gX2_catchesIf_X2_guardOn : GoodIn wsX2_catchesIf (wsV RX2 74 RX2 yX2_guardOn wsX2_guardOn) := goodIn_app (a := bkV RX2 74 RX2 yX2_guardOn) (fun w h => ⟨List.mem_cons_of_mem _ (List.mem_append_right _ (List.mem_append_left _ h)), good_of_word (gd_bV _ _ _ _ w h)⟩) ggX2_catchesIf_X2_guardOn
theorem ggX2_catchesIf_X2_isThere : GoodIn wsX2_catchesIf wsX2_isThere := fun w h => ⟨List.mem_cons_of_mem _ (List.mem_append_right _ (List.mem_append_right _ (List.mem_append_right _ (List.mem_append_right _ (List.mem_append_right _ (List.mem_append_right _ (List.mem_append_right _ (List.mem_append_left _ h)))))))), good_of_word (gdX2_isThere w h)⟩
set_option maxRecDepth 20000 in
theorem gX2_catchesIf_X2_isThere : GoodIn wsX2_catchesIf (wsV RX2 77 RX2 yX2_isThere wsX2_isThere) := goodIn_app (a := bkV RX2 77 RX2 yX2_isThere) (fun w h => ⟨List.mem_cons_of_mem _ (List.mem_append_right _ (List.mem_append_right _ (List.mem_append_left _ h))), good_of_word (gd_bV _ _ _ _ w h)⟩) ggX2_catchesIf_X2_isThere
theorem ggX2_catchesIf_X2_wouldTake : GoodIn wsX2_catchesIf wsX2_wouldTake := fun w h => ⟨List.mem_cons_of_mem _ (List.mem_append_right _ (List.mem_append_right _ (List.mem_append_right _ (List.mem_append_right _ (List.mem_append_right _ (List.mem_append_right _ (List.mem_append_right _ (List.mem_append_right _ (List.mem_append_left _ h))))))))), good_of_word (gdX2_wouldTake w h)⟩
set_option maxRecDepth 20000 in
theorem gX2_catchesIf_X2_wouldTake : GoodIn wsX2_catchesIf (wsV RX2 81 RX2 yX2_wouldTake wsX2_wouldTake) := goodIn_app (a := bkV RX2 81 RX2 yX2_wouldTake) (fun w h => ⟨List.mem_cons_of_mem _ (List.mem_append_right _ (List.mem_append_right _ (List.mem_append_right _ (List.mem_append_left _ h)))), good_of_word (gd_bV _ _ _ _ w h)⟩) ggX2_catchesIf_X2_wouldTake
def tb_X2_catchesIf_1 : List (Nat × Instr × Nat) := [(0, .aload_n 0, 1), (1, .iload 4, 2), (3, .iload_n 3, 1), (4, .invokevirtual 74, 3), (7, .istore 5, 2), (9, .aload_n 0, 1), (10, .iload 5, 2), (12, .invokevirtual 77, 3), (15, .ifCond .eq 25, 3), (18, .aload_n 0, 1), (19, .aload_n 0, 1), (20, .getfield 15, 3), (23, .iload 5, 2), (25, .iaload, 1), (26, .iload_n 2, 1), (27, .iload_n 1, 1), (28, .iload 4, 2), (30, .invokevirtual 81, 3), (33, .ifCond .eq 7, 3), (36, .iconst 1, 1), (37, .goto 4, 3), (40, .iconst 0, 1), (41, .ireturn, 1)]
set_option maxRecDepth 100000 in
theorem tk_X2_catchesIf_1 : (tb_X2_catchesIf_1.all fun q => decide (decode cX2_catchesIf q.1 = .ok q.2)) = true := by decide +kernel
theorem dX2_catchesIf_0 : decode cX2_catchesIf 0 = .ok (.aload_n 0, 1) := tb_d tk_X2_catchesIf_1 0 (0, .aload_n 0, 1) rfl
theorem dX2_catchesIf_1 : decode cX2_catchesIf 1 = .ok (.iload 4, 2) := tb_d tk_X2_catchesIf_1 1 (1, .iload 4, 2) rfl
theorem dX2_catchesIf_3 : decode cX2_catchesIf 3 = .ok (.iload_n 3, 1) := tb_d tk_X2_catchesIf_1 2 (3, .iload_n 3, 1) rfl
theorem dX2_catchesIf_4 : decode cX2_catchesIf 4 = .ok (.invokevirtual 74, 3) := tb_d tk_X2_catchesIf_1 3 (4, .invokevirtual 74, 3) rfl
theorem dX2_catchesIf_7 : decode cX2_catchesIf 7 = .ok (.istore 5, 2) := tb_d tk_X2_catchesIf_1 4 (7, .istore 5, 2) rfl
theorem dX2_catchesIf_9 : decode cX2_catchesIf 9 = .ok (.aload_n 0, 1) := tb_d tk_X2_catchesIf_1 5 (9, .aload_n 0, 1) rfl
theorem dX2_catchesIf_10 : decode cX2_catchesIf 10 = .ok (.iload 5, 2) := tb_d tk_X2_catchesIf_1 6 (10, .iload 5, 2) rfl
theorem dX2_catchesIf_12 : decode cX2_catchesIf 12 = .ok (.invokevirtual 77, 3) := tb_d tk_X2_catchesIf_1 7 (12, .invokevirtual 77, 3) rfl
theorem dX2_catchesIf_15 : decode cX2_catchesIf 15 = .ok (.ifCond .eq 25, 3) := tb_d tk_X2_catchesIf_1 8 (15, .ifCond .eq 25, 3) rfl
theorem dX2_catchesIf_18 : decode cX2_catchesIf 18 = .ok (.aload_n 0, 1) := tb_d tk_X2_catchesIf_1 9 (18, .aload_n 0, 1) rfl
theorem dX2_catchesIf_19 : decode cX2_catchesIf 19 = .ok (.aload_n 0, 1) := tb_d tk_X2_catchesIf_1 10 (19, .aload_n 0, 1) rfl
theorem dX2_catchesIf_20 : decode cX2_catchesIf 20 = .ok (.getfield 15, 3) := tb_d tk_X2_catchesIf_1 11 (20, .getfield 15, 3) rfl
theorem dX2_catchesIf_23 : decode cX2_catchesIf 23 = .ok (.iload 5, 2) := tb_d tk_X2_catchesIf_1 12 (23, .iload 5, 2) rfl
theorem dX2_catchesIf_25 : decode cX2_catchesIf 25 = .ok (.iaload, 1) := tb_d tk_X2_catchesIf_1 13 (25, .iaload, 1) rfl
theorem dX2_catchesIf_26 : decode cX2_catchesIf 26 = .ok (.iload_n 2, 1) := tb_d tk_X2_catchesIf_1 14 (26, .iload_n 2, 1) rfl
theorem dX2_catchesIf_27 : decode cX2_catchesIf 27 = .ok (.iload_n 1, 1) := tb_d tk_X2_catchesIf_1 15 (27, .iload_n 1, 1) rfl
theorem dX2_catchesIf_28 : decode cX2_catchesIf 28 = .ok (.iload 4, 2) := tb_d tk_X2_catchesIf_1 16 (28, .iload 4, 2) rfl
theorem dX2_catchesIf_30 : decode cX2_catchesIf 30 = .ok (.invokevirtual 81, 3) := tb_d tk_X2_catchesIf_1 17 (30, .invokevirtual 81, 3) rfl
theorem dX2_catchesIf_33 : decode cX2_catchesIf 33 = .ok (.ifCond .eq 7, 3) := tb_d tk_X2_catchesIf_1 18 (33, .ifCond .eq 7, 3) rfl
theorem dX2_catchesIf_36 : decode cX2_catchesIf 36 = .ok (.iconst 1, 1) := tb_d tk_X2_catchesIf_1 19 (36, .iconst 1, 1) rfl
theorem dX2_catchesIf_37 : decode cX2_catchesIf 37 = .ok (.goto 4, 3) := tb_d tk_X2_catchesIf_1 20 (37, .goto 4, 3) rfl
theorem dX2_catchesIf_40 : decode cX2_catchesIf 40 = .ok (.iconst 0, 1) := tb_d tk_X2_catchesIf_1 21 (40, .iconst 0, 1) rfl
theorem dX2_catchesIf_41 : decode cX2_catchesIf 41 = .ok (.ireturn, 1) := tb_d tk_X2_catchesIf_1 22 (41, .ireturn, 1) rfl
theorem ggX2_catches_X2_secretIn : GoodIn wsX2_catches wsX2_secretIn := fun w h => ⟨List.mem_cons_of_mem _ (List.mem_append_right _ (List.mem_append_right _ (List.mem_append_right _ (List.mem_append_right _ (List.mem_append_right _ (List.mem_append_left _ h)))))), good_of_word (gdX2_secretIn w h)⟩
set_option maxRecDepth 20000 in
theorem gX2_catches_X2_secretIn : GoodIn wsX2_catches (wsV RX2 85 RX2 yX2_secretIn wsX2_secretIn) := goodIn_app (a := bkV RX2 85 RX2 yX2_secretIn) (fun w h => ⟨List.mem_cons_of_mem _ (List.mem_append_right _ (List.mem_append_left _ h)), good_of_word (gd_bV _ _ _ _ w h)⟩) ggX2_catches_X2_secretIn
theorem ggX2_catches_X2_catchesIf : GoodIn wsX2_catches wsX2_catchesIf := fun w h => ⟨List.mem_cons_of_mem _ (List.mem_append_right _ (List.mem_append_right _ (List.mem_append_right _ (List.mem_append_right _ (List.mem_append_right _ (List.mem_append_right _ (List.mem_append_left _ h))))))), good_of_word (gdX2_catchesIf w h)⟩
set_option maxRecDepth 20000 in
theorem gX2_catches_X2_catchesIf : GoodIn wsX2_catches (wsV RX2 89 RX2 yX2_catchesIf wsX2_catchesIf) := goodIn_app (a := bkV RX2 89 RX2 yX2_catchesIf) (fun w h => ⟨List.mem_cons_of_mem _ (List.mem_append_right _ (List.mem_append_right _ (List.mem_append_left _ h))), good_of_word (gd_bV _ _ _ _ w h)⟩) ggX2_catches_X2_catchesIf
def tb_X2_catches_1 : List (Nat × Instr × Nat) := [(0, .aload_n 0, 1), (1, .aload_n 0, 1), (2, .iload_n 3, 1), (3, .invokevirtual 85, 3), (6, .iload_n 1, 1), (7, .iload_n 2, 1), (8, .aload_n 0, 1), (9, .getfield 24, 3), (12, .getfield 58, 3), (15, .iload_n 3, 1), (16, .iadd, 1), (17, .invokevirtual 89, 3), (20, .ireturn, 1)]
set_option maxRecDepth 100000 in
theorem tk_X2_catches_1 : (tb_X2_catches_1.all fun q => decide (decode cX2_catches q.1 = .ok q.2)) = true := by decide +kernel
theorem dX2_catches_0 : decode cX2_catches 0 = .ok (.aload_n 0, 1) := tb_d tk_X2_catches_1 0 (0, .aload_n 0, 1) rfl
theorem dX2_catches_1 : decode cX2_catches 1 = .ok (.aload_n 0, 1) := tb_d tk_X2_catches_1 1 (1, .aload_n 0, 1) rfl
theorem dX2_catches_2 : decode cX2_catches 2 = .ok (.iload_n 3, 1) := tb_d tk_X2_catches_1 2 (2, .iload_n 3, 1) rfl
theorem dX2_catches_3 : decode cX2_catches 3 = .ok (.invokevirtual 85, 3) := tb_d tk_X2_catches_1 3 (3, .invokevirtual 85, 3) rfl
theorem dX2_catches_6 : decode cX2_catches 6 = .ok (.iload_n 1, 1) := tb_d tk_X2_catches_1 4 (6, .iload_n 1, 1) rfl
theorem dX2_catches_7 : decode cX2_catches 7 = .ok (.iload_n 2, 1) := tb_d tk_X2_catches_1 5 (7, .iload_n 2, 1) rfl
theorem dX2_catches_8 : decode cX2_catches 8 = .ok (.aload_n 0, 1) := tb_d tk_X2_catches_1 6 (8, .aload_n 0, 1) rfl
theorem dX2_catches_9 : decode cX2_catches 9 = .ok (.getfield 24, 3) := tb_d tk_X2_catches_1 7 (9, .getfield 24, 3) rfl
theorem dX2_catches_12 : decode cX2_catches 12 = .ok (.getfield 58, 3) := tb_d tk_X2_catches_1 8 (12, .getfield 58, 3) rfl
theorem dX2_catches_15 : decode cX2_catches 15 = .ok (.iload_n 3, 1) := tb_d tk_X2_catches_1 9 (15, .iload_n 3, 1) rfl
theorem dX2_catches_16 : decode cX2_catches 16 = .ok (.iadd, 1) := tb_d tk_X2_catches_1 10 (16, .iadd, 1) rfl
theorem dX2_catches_17 : decode cX2_catches 17 = .ok (.invokevirtual 89, 3) := tb_d tk_X2_catches_1 11 (17, .invokevirtual 89, 3) rfl
theorem dX2_catches_20 : decode cX2_catches 20 = .ok (.ireturn, 1) := tb_d tk_X2_catches_1 12 (20, .ireturn, 1) rfl
theorem ggX2_hoursOf_X2_guardOn : GoodIn wsX2_hoursOf wsX2_guardOn := fun w h => ⟨List.mem_cons_of_mem _ (List.mem_append_right _ (List.mem_append_right _ (List.mem_append_right _ (List.mem_append_right _ (List.mem_append_left _ h))))), good_of_word (gdX2_guardOn w h)⟩
set_option maxRecDepth 20000 in
theorem gX2_hoursOf_X2_guardOn : GoodIn wsX2_hoursOf (wsV RX2 74 RX2 yX2_guardOn wsX2_guardOn) := goodIn_app (a := bkV RX2 74 RX2 yX2_guardOn) (fun w h => ⟨List.mem_cons_of_mem _ (List.mem_append_right _ (List.mem_append_left _ h)), good_of_word (gd_bV _ _ _ _ w h)⟩) ggX2_hoursOf_X2_guardOn
theorem ggX2_hoursOf_X7_bit : GoodIn wsX2_hoursOf wsX7_bit := fun w h => ⟨List.mem_cons_of_mem _ (List.mem_append_right _ (List.mem_append_right _ (List.mem_append_right _ (List.mem_append_right _ (List.mem_append_right _ (List.mem_append_left _ h)))))), good_of_word (gdX7_bit w h)⟩
set_option maxRecDepth 20000 in
theorem gX2_hoursOf_X7_bit_n92 : GoodIn wsX2_hoursOf (wsX7_bit) := ggX2_hoursOf_X7_bit
def tb_X2_hoursOf_1 : List (Nat × Instr × Nat) := [(0, .iconst 0, 1), (1, .istore_n 2, 1), (2, .iconst 0, 1), (3, .istore_n 3, 1), (4, .iload_n 3, 1), (5, .bipush 6, 2), (7, .if_icmp .ge 38, 3), (10, .iload_n 2, 1), (11, .aload_n 0, 1), (12, .aload_n 0, 1), (13, .getfield 24, 3), (16, .getfield 58, 3), (19, .iload_n 3, 1), (20, .invokevirtual 74, 3), (23, .iload_n 1, 1), (24, .if_icmp .ne 7, 3), (27, .iconst 1, 1), (28, .goto 4, 3), (31, .iconst 0, 1), (32, .invokestatic 92, 3), (35, .iload_n 3, 1), (36, .ishl, 1), (37, .ior, 1), (38, .istore_n 2, 1), (39, .iinc 3 1, 3), (42, .goto (-38), 3), (45, .iload_n 2, 1), (46, .ireturn, 1)]
set_option maxRecDepth 100000 in
theorem tk_X2_hoursOf_1 : (tb_X2_hoursOf_1.all fun q => decide (decode cX2_hoursOf q.1 = .ok q.2)) = true := by decide +kernel
theorem dX2_hoursOf_0 : decode cX2_hoursOf 0 = .ok (.iconst 0, 1) := tb_d tk_X2_hoursOf_1 0 (0, .iconst 0, 1) rfl
theorem dX2_hoursOf_1 : decode cX2_hoursOf 1 = .ok (.istore_n 2, 1) := tb_d tk_X2_hoursOf_1 1 (1, .istore_n 2, 1) rfl
theorem dX2_hoursOf_2 : decode cX2_hoursOf 2 = .ok (.iconst 0, 1) := tb_d tk_X2_hoursOf_1 2 (2, .iconst 0, 1) rfl
theorem dX2_hoursOf_3 : decode cX2_hoursOf 3 = .ok (.istore_n 3, 1) := tb_d tk_X2_hoursOf_1 3 (3, .istore_n 3, 1) rfl
theorem dX2_hoursOf_4 : decode cX2_hoursOf 4 = .ok (.iload_n 3, 1) := tb_d tk_X2_hoursOf_1 4 (4, .iload_n 3, 1) rfl
theorem dX2_hoursOf_5 : decode cX2_hoursOf 5 = .ok (.bipush 6, 2) := tb_d tk_X2_hoursOf_1 5 (5, .bipush 6, 2) rfl
theorem dX2_hoursOf_7 : decode cX2_hoursOf 7 = .ok (.if_icmp .ge 38, 3) := tb_d tk_X2_hoursOf_1 6 (7, .if_icmp .ge 38, 3) rfl
theorem dX2_hoursOf_10 : decode cX2_hoursOf 10 = .ok (.iload_n 2, 1) := tb_d tk_X2_hoursOf_1 7 (10, .iload_n 2, 1) rfl
theorem dX2_hoursOf_11 : decode cX2_hoursOf 11 = .ok (.aload_n 0, 1) := tb_d tk_X2_hoursOf_1 8 (11, .aload_n 0, 1) rfl
theorem dX2_hoursOf_12 : decode cX2_hoursOf 12 = .ok (.aload_n 0, 1) := tb_d tk_X2_hoursOf_1 9 (12, .aload_n 0, 1) rfl
theorem dX2_hoursOf_13 : decode cX2_hoursOf 13 = .ok (.getfield 24, 3) := tb_d tk_X2_hoursOf_1 10 (13, .getfield 24, 3) rfl
theorem dX2_hoursOf_16 : decode cX2_hoursOf 16 = .ok (.getfield 58, 3) := tb_d tk_X2_hoursOf_1 11 (16, .getfield 58, 3) rfl
theorem dX2_hoursOf_19 : decode cX2_hoursOf 19 = .ok (.iload_n 3, 1) := tb_d tk_X2_hoursOf_1 12 (19, .iload_n 3, 1) rfl
theorem dX2_hoursOf_20 : decode cX2_hoursOf 20 = .ok (.invokevirtual 74, 3) := tb_d tk_X2_hoursOf_1 13 (20, .invokevirtual 74, 3) rfl
theorem dX2_hoursOf_23 : decode cX2_hoursOf 23 = .ok (.iload_n 1, 1) := tb_d tk_X2_hoursOf_1 14 (23, .iload_n 1, 1) rfl
theorem dX2_hoursOf_24 : decode cX2_hoursOf 24 = .ok (.if_icmp .ne 7, 3) := tb_d tk_X2_hoursOf_1 15 (24, .if_icmp .ne 7, 3) rfl
theorem dX2_hoursOf_27 : decode cX2_hoursOf 27 = .ok (.iconst 1, 1) := tb_d tk_X2_hoursOf_1 16 (27, .iconst 1, 1) rfl
theorem dX2_hoursOf_28 : decode cX2_hoursOf 28 = .ok (.goto 4, 3) := tb_d tk_X2_hoursOf_1 17 (28, .goto 4, 3) rfl
theorem dX2_hoursOf_31 : decode cX2_hoursOf 31 = .ok (.iconst 0, 1) := tb_d tk_X2_hoursOf_1 18 (31, .iconst 0, 1) rfl
theorem dX2_hoursOf_32 : decode cX2_hoursOf 32 = .ok (.invokestatic 92, 3) := tb_d tk_X2_hoursOf_1 19 (32, .invokestatic 92, 3) rfl
theorem dX2_hoursOf_35 : decode cX2_hoursOf 35 = .ok (.iload_n 3, 1) := tb_d tk_X2_hoursOf_1 20 (35, .iload_n 3, 1) rfl
theorem dX2_hoursOf_36 : decode cX2_hoursOf 36 = .ok (.ishl, 1) := tb_d tk_X2_hoursOf_1 21 (36, .ishl, 1) rfl
theorem dX2_hoursOf_37 : decode cX2_hoursOf 37 = .ok (.ior, 1) := tb_d tk_X2_hoursOf_1 22 (37, .ior, 1) rfl
theorem dX2_hoursOf_38 : decode cX2_hoursOf 38 = .ok (.istore_n 2, 1) := tb_d tk_X2_hoursOf_1 23 (38, .istore_n 2, 1) rfl
theorem dX2_hoursOf_39 : decode cX2_hoursOf 39 = .ok (.iinc 3 1, 3) := tb_d tk_X2_hoursOf_1 24 (39, .iinc 3 1, 3) rfl
theorem dX2_hoursOf_42 : decode cX2_hoursOf 42 = .ok (.goto (-38), 3) := tb_d tk_X2_hoursOf_1 25 (42, .goto (-38), 3) rfl
theorem dX2_hoursOf_45 : decode cX2_hoursOf 45 = .ok (.iload_n 2, 1) := tb_d tk_X2_hoursOf_1 26 (45, .iload_n 2, 1) rfl
theorem dX2_hoursOf_46 : decode cX2_hoursOf 46 = .ok (.ireturn, 1) := tb_d tk_X2_hoursOf_1 27 (46, .ireturn, 1) rfl
theorem ggX2_wordsIn_X2_catches : GoodIn wsX2_wordsIn wsX2_catches := fun w h => ⟨List.mem_cons_of_mem _ (List.mem_append_right _ (List.mem_append_right _ (List.mem_append_right _ (List.mem_append_right _ (List.mem_append_left _ h))))), good_of_word (gdX2_catches w h)⟩
set_option maxRecDepth 20000 in
theorem gX2_wordsIn_X2_catches : GoodIn wsX2_wordsIn (wsV RX2 96 RX2 yX2_catches wsX2_catches) := goodIn_app (a := bkV RX2 96 RX2 yX2_catches) (fun w h => ⟨List.mem_cons_of_mem _ (List.mem_append_right _ (List.mem_append_left _ h)), good_of_word (gd_bV _ _ _ _ w h)⟩) ggX2_wordsIn_X2_catches
theorem ggX2_wordsIn_X7_bit : GoodIn wsX2_wordsIn wsX7_bit := fun w h => ⟨List.mem_cons_of_mem _ (List.mem_append_right _ (List.mem_append_right _ (List.mem_append_right _ (List.mem_append_right _ (List.mem_append_right _ (List.mem_append_left _ h)))))), good_of_word (gdX7_bit w h)⟩
set_option maxRecDepth 20000 in
theorem gX2_wordsIn_X7_bit_n92 : GoodIn wsX2_wordsIn (wsX7_bit) := ggX2_wordsIn_X7_bit
def tb_X2_wordsIn_1 : List (Nat × Instr × Nat) := [(0, .iconst 0, 1), (1, .istore_n 3, 1), (2, .iconst 0, 1), (3, .istore 4, 2), (5, .iload 4, 2), (7, .aload_n 0, 1), (8, .getfield 45, 3), (11, .if_icmp .ge 34, 3), (14, .iload_n 3, 1), (15, .aload_n 0, 1), (16, .iload 4, 2), (18, .iload_n 1, 1), (19, .iload_n 2, 1), (20, .invokevirtual 96, 3), (23, .ifCond .ne 7, 3), (26, .iconst 1, 1), (27, .goto 4, 3), (30, .iconst 0, 1), (31, .invokestatic 92, 3), (34, .iload 4, 2), (36, .ishl, 1), (37, .ior, 1), (38, .istore_n 3, 1), (39, .iinc 4 1, 3), (42, .goto (-37), 3), (45, .iload_n 3, 1), (46, .ireturn, 1)]
set_option maxRecDepth 100000 in
theorem tk_X2_wordsIn_1 : (tb_X2_wordsIn_1.all fun q => decide (decode cX2_wordsIn q.1 = .ok q.2)) = true := by decide +kernel
theorem dX2_wordsIn_0 : decode cX2_wordsIn 0 = .ok (.iconst 0, 1) := tb_d tk_X2_wordsIn_1 0 (0, .iconst 0, 1) rfl
theorem dX2_wordsIn_1 : decode cX2_wordsIn 1 = .ok (.istore_n 3, 1) := tb_d tk_X2_wordsIn_1 1 (1, .istore_n 3, 1) rfl
theorem dX2_wordsIn_2 : decode cX2_wordsIn 2 = .ok (.iconst 0, 1) := tb_d tk_X2_wordsIn_1 2 (2, .iconst 0, 1) rfl
theorem dX2_wordsIn_3 : decode cX2_wordsIn 3 = .ok (.istore 4, 2) := tb_d tk_X2_wordsIn_1 3 (3, .istore 4, 2) rfl
theorem dX2_wordsIn_5 : decode cX2_wordsIn 5 = .ok (.iload 4, 2) := tb_d tk_X2_wordsIn_1 4 (5, .iload 4, 2) rfl
theorem dX2_wordsIn_7 : decode cX2_wordsIn 7 = .ok (.aload_n 0, 1) := tb_d tk_X2_wordsIn_1 5 (7, .aload_n 0, 1) rfl
theorem dX2_wordsIn_8 : decode cX2_wordsIn 8 = .ok (.getfield 45, 3) := tb_d tk_X2_wordsIn_1 6 (8, .getfield 45, 3) rfl
theorem dX2_wordsIn_11 : decode cX2_wordsIn 11 = .ok (.if_icmp .ge 34, 3) := tb_d tk_X2_wordsIn_1 7 (11, .if_icmp .ge 34, 3) rfl
theorem dX2_wordsIn_14 : decode cX2_wordsIn 14 = .ok (.iload_n 3, 1) := tb_d tk_X2_wordsIn_1 8 (14, .iload_n 3, 1) rfl
theorem dX2_wordsIn_15 : decode cX2_wordsIn 15 = .ok (.aload_n 0, 1) := tb_d tk_X2_wordsIn_1 9 (15, .aload_n 0, 1) rfl
theorem dX2_wordsIn_16 : decode cX2_wordsIn 16 = .ok (.iload 4, 2) := tb_d tk_X2_wordsIn_1 10 (16, .iload 4, 2) rfl
theorem dX2_wordsIn_18 : decode cX2_wordsIn 18 = .ok (.iload_n 1, 1) := tb_d tk_X2_wordsIn_1 11 (18, .iload_n 1, 1) rfl
theorem dX2_wordsIn_19 : decode cX2_wordsIn 19 = .ok (.iload_n 2, 1) := tb_d tk_X2_wordsIn_1 12 (19, .iload_n 2, 1) rfl
theorem dX2_wordsIn_20 : decode cX2_wordsIn 20 = .ok (.invokevirtual 96, 3) := tb_d tk_X2_wordsIn_1 13 (20, .invokevirtual 96, 3) rfl
theorem dX2_wordsIn_23 : decode cX2_wordsIn 23 = .ok (.ifCond .ne 7, 3) := tb_d tk_X2_wordsIn_1 14 (23, .ifCond .ne 7, 3) rfl
theorem dX2_wordsIn_26 : decode cX2_wordsIn 26 = .ok (.iconst 1, 1) := tb_d tk_X2_wordsIn_1 15 (26, .iconst 1, 1) rfl
theorem dX2_wordsIn_27 : decode cX2_wordsIn 27 = .ok (.goto 4, 3) := tb_d tk_X2_wordsIn_1 16 (27, .goto 4, 3) rfl
theorem dX2_wordsIn_30 : decode cX2_wordsIn 30 = .ok (.iconst 0, 1) := tb_d tk_X2_wordsIn_1 17 (30, .iconst 0, 1) rfl
theorem dX2_wordsIn_31 : decode cX2_wordsIn 31 = .ok (.invokestatic 92, 3) := tb_d tk_X2_wordsIn_1 18 (31, .invokestatic 92, 3) rfl
theorem dX2_wordsIn_34 : decode cX2_wordsIn 34 = .ok (.iload 4, 2) := tb_d tk_X2_wordsIn_1 19 (34, .iload 4, 2) rfl
theorem dX2_wordsIn_36 : decode cX2_wordsIn 36 = .ok (.ishl, 1) := tb_d tk_X2_wordsIn_1 20 (36, .ishl, 1) rfl
theorem dX2_wordsIn_37 : decode cX2_wordsIn 37 = .ok (.ior, 1) := tb_d tk_X2_wordsIn_1 21 (37, .ior, 1) rfl
theorem dX2_wordsIn_38 : decode cX2_wordsIn 38 = .ok (.istore_n 3, 1) := tb_d tk_X2_wordsIn_1 22 (38, .istore_n 3, 1) rfl
theorem dX2_wordsIn_39 : decode cX2_wordsIn 39 = .ok (.iinc 4 1, 3) := tb_d tk_X2_wordsIn_1 23 (39, .iinc 4 1, 3) rfl
theorem dX2_wordsIn_42 : decode cX2_wordsIn 42 = .ok (.goto (-37), 3) := tb_d tk_X2_wordsIn_1 24 (42, .goto (-37), 3) rfl
theorem dX2_wordsIn_45 : decode cX2_wordsIn 45 = .ok (.iload_n 3, 1) := tb_d tk_X2_wordsIn_1 25 (45, .iload_n 3, 1) rfl
theorem dX2_wordsIn_46 : decode cX2_wordsIn 46 = .ok (.ireturn, 1) := tb_d tk_X2_wordsIn_1 26 (46, .ireturn, 1) rfl
theorem ggX2_hoursOpen_X2_wordsIn : GoodIn wsX2_hoursOpen wsX2_wordsIn := fun w h => ⟨List.mem_cons_of_mem _ (List.mem_append_right _ (List.mem_append_right _ (List.mem_append_right _ (List.mem_append_right _ (List.mem_append_left _ h))))), good_of_word (gdX2_wordsIn w h)⟩
set_option maxRecDepth 20000 in
theorem gX2_hoursOpen_X2_wordsIn : GoodIn wsX2_hoursOpen (wsV RX2 100 RX2 yX2_wordsIn wsX2_wordsIn) := goodIn_app (a := bkV RX2 100 RX2 yX2_wordsIn) (fun w h => ⟨List.mem_cons_of_mem _ (List.mem_append_right _ (List.mem_append_left _ h)), good_of_word (gd_bV _ _ _ _ w h)⟩) ggX2_hoursOpen_X2_wordsIn
theorem ggX2_hoursOpen_X7_bit : GoodIn wsX2_hoursOpen wsX7_bit := fun w h => ⟨List.mem_cons_of_mem _ (List.mem_append_right _ (List.mem_append_right _ (List.mem_append_right _ (List.mem_append_right _ (List.mem_append_right _ (List.mem_append_left _ h)))))), good_of_word (gdX7_bit w h)⟩
set_option maxRecDepth 20000 in
theorem gX2_hoursOpen_X7_bit_n92 : GoodIn wsX2_hoursOpen (wsX7_bit) := ggX2_hoursOpen_X7_bit
def tb_X2_hoursOpen_1 : List (Nat × Instr × Nat) := [(0, .iconst 0, 1), (1, .istore_n 3, 1), (2, .iconst 0, 1), (3, .istore 4, 2), (5, .iload 4, 2), (7, .bipush 6, 2), (9, .if_icmp .ge 37, 3), (12, .iload_n 3, 1), (13, .iload_n 1, 1), (14, .aload_n 0, 1), (15, .iload 4, 2), (17, .iload_n 2, 1), (18, .invokevirtual 100, 3), (21, .iconst (-1), 1), (22, .ixor, 1), (23, .iand, 1), (24, .ifCond .ne 7, 3), (27, .iconst 1, 1), (28, .goto 4, 3), (31, .iconst 0, 1), (32, .invokestatic 92, 3), (35, .iload 4, 2), (37, .ishl, 1), (38, .ior, 1), (39, .istore_n 3, 1), (40, .iinc 4 1, 3), (43, .goto (-38), 3), (46, .iload_n 3, 1), (47, .ireturn, 1)]
set_option maxRecDepth 100000 in
theorem tk_X2_hoursOpen_1 : (tb_X2_hoursOpen_1.all fun q => decide (decode cX2_hoursOpen q.1 = .ok q.2)) = true := by decide +kernel
theorem dX2_hoursOpen_0 : decode cX2_hoursOpen 0 = .ok (.iconst 0, 1) := tb_d tk_X2_hoursOpen_1 0 (0, .iconst 0, 1) rfl
theorem dX2_hoursOpen_1 : decode cX2_hoursOpen 1 = .ok (.istore_n 3, 1) := tb_d tk_X2_hoursOpen_1 1 (1, .istore_n 3, 1) rfl
theorem dX2_hoursOpen_2 : decode cX2_hoursOpen 2 = .ok (.iconst 0, 1) := tb_d tk_X2_hoursOpen_1 2 (2, .iconst 0, 1) rfl
theorem dX2_hoursOpen_3 : decode cX2_hoursOpen 3 = .ok (.istore 4, 2) := tb_d tk_X2_hoursOpen_1 3 (3, .istore 4, 2) rfl
theorem dX2_hoursOpen_5 : decode cX2_hoursOpen 5 = .ok (.iload 4, 2) := tb_d tk_X2_hoursOpen_1 4 (5, .iload 4, 2) rfl
theorem dX2_hoursOpen_7 : decode cX2_hoursOpen 7 = .ok (.bipush 6, 2) := tb_d tk_X2_hoursOpen_1 5 (7, .bipush 6, 2) rfl
theorem dX2_hoursOpen_9 : decode cX2_hoursOpen 9 = .ok (.if_icmp .ge 37, 3) := tb_d tk_X2_hoursOpen_1 6 (9, .if_icmp .ge 37, 3) rfl
theorem dX2_hoursOpen_12 : decode cX2_hoursOpen 12 = .ok (.iload_n 3, 1) := tb_d tk_X2_hoursOpen_1 7 (12, .iload_n 3, 1) rfl
theorem dX2_hoursOpen_13 : decode cX2_hoursOpen 13 = .ok (.iload_n 1, 1) := tb_d tk_X2_hoursOpen_1 8 (13, .iload_n 1, 1) rfl
theorem dX2_hoursOpen_14 : decode cX2_hoursOpen 14 = .ok (.aload_n 0, 1) := tb_d tk_X2_hoursOpen_1 9 (14, .aload_n 0, 1) rfl
theorem dX2_hoursOpen_15 : decode cX2_hoursOpen 15 = .ok (.iload 4, 2) := tb_d tk_X2_hoursOpen_1 10 (15, .iload 4, 2) rfl
theorem dX2_hoursOpen_17 : decode cX2_hoursOpen 17 = .ok (.iload_n 2, 1) := tb_d tk_X2_hoursOpen_1 11 (17, .iload_n 2, 1) rfl
theorem dX2_hoursOpen_18 : decode cX2_hoursOpen 18 = .ok (.invokevirtual 100, 3) := tb_d tk_X2_hoursOpen_1 12 (18, .invokevirtual 100, 3) rfl
theorem dX2_hoursOpen_21 : decode cX2_hoursOpen 21 = .ok (.iconst (-1), 1) := tb_d tk_X2_hoursOpen_1 13 (21, .iconst (-1), 1) rfl
theorem dX2_hoursOpen_22 : decode cX2_hoursOpen 22 = .ok (.ixor, 1) := tb_d tk_X2_hoursOpen_1 14 (22, .ixor, 1) rfl
theorem dX2_hoursOpen_23 : decode cX2_hoursOpen 23 = .ok (.iand, 1) := tb_d tk_X2_hoursOpen_1 15 (23, .iand, 1) rfl
theorem dX2_hoursOpen_24 : decode cX2_hoursOpen 24 = .ok (.ifCond .ne 7, 3) := tb_d tk_X2_hoursOpen_1 16 (24, .ifCond .ne 7, 3) rfl
theorem dX2_hoursOpen_27 : decode cX2_hoursOpen 27 = .ok (.iconst 1, 1) := tb_d tk_X2_hoursOpen_1 17 (27, .iconst 1, 1) rfl
theorem dX2_hoursOpen_28 : decode cX2_hoursOpen 28 = .ok (.goto 4, 3) := tb_d tk_X2_hoursOpen_1 18 (28, .goto 4, 3) rfl
theorem dX2_hoursOpen_31 : decode cX2_hoursOpen 31 = .ok (.iconst 0, 1) := tb_d tk_X2_hoursOpen_1 19 (31, .iconst 0, 1) rfl
theorem dX2_hoursOpen_32 : decode cX2_hoursOpen 32 = .ok (.invokestatic 92, 3) := tb_d tk_X2_hoursOpen_1 20 (32, .invokestatic 92, 3) rfl
theorem dX2_hoursOpen_35 : decode cX2_hoursOpen 35 = .ok (.iload 4, 2) := tb_d tk_X2_hoursOpen_1 21 (35, .iload 4, 2) rfl
theorem dX2_hoursOpen_37 : decode cX2_hoursOpen 37 = .ok (.ishl, 1) := tb_d tk_X2_hoursOpen_1 22 (37, .ishl, 1) rfl
theorem dX2_hoursOpen_38 : decode cX2_hoursOpen 38 = .ok (.ior, 1) := tb_d tk_X2_hoursOpen_1 23 (38, .ior, 1) rfl
theorem dX2_hoursOpen_39 : decode cX2_hoursOpen 39 = .ok (.istore_n 3, 1) := tb_d tk_X2_hoursOpen_1 24 (39, .istore_n 3, 1) rfl
theorem dX2_hoursOpen_40 : decode cX2_hoursOpen 40 = .ok (.iinc 4 1, 3) := tb_d tk_X2_hoursOpen_1 25 (40, .iinc 4 1, 3) rfl
theorem dX2_hoursOpen_43 : decode cX2_hoursOpen 43 = .ok (.goto (-38), 3) := tb_d tk_X2_hoursOpen_1 26 (43, .goto (-38), 3) rfl
theorem dX2_hoursOpen_46 : decode cX2_hoursOpen 46 = .ok (.iload_n 3, 1) := tb_d tk_X2_hoursOpen_1 27 (46, .iload_n 3, 1) rfl
theorem dX2_hoursOpen_47 : decode cX2_hoursOpen 47 = .ok (.ireturn, 1) := tb_d tk_X2_hoursOpen_1 28 (47, .ireturn, 1) rfl
theorem ggX2_nightsUntil_X2_secretIn : GoodIn wsX2_nightsUntil wsX2_secretIn := fun w h => ⟨List.mem_cons_of_mem _ (List.mem_append_right _ (List.mem_append_right _ (List.mem_append_right _ (List.mem_append_right _ (List.mem_append_left _ h))))), good_of_word (gdX2_secretIn w h)⟩
set_option maxRecDepth 20000 in
theorem gX2_nightsUntil_X2_secretIn : GoodIn wsX2_nightsUntil (wsV RX2 85 RX2 yX2_secretIn wsX2_secretIn) := goodIn_app (a := bkV RX2 85 RX2 yX2_secretIn) (fun w h => ⟨List.mem_cons_of_mem _ (List.mem_append_right _ (List.mem_append_left _ h)), good_of_word (gd_bV _ _ _ _ w h)⟩) ggX2_nightsUntil_X2_secretIn
def tb_X2_nightsUntil_1 : List (Nat × Instr × Nat) := [(0, .iconst 0, 1), (1, .istore_n 2, 1), (2, .iload_n 2, 1), (3, .bipush 60, 2), (5, .if_icmp .gt 20, 3), (8, .aload_n 0, 1), (9, .iload_n 2, 1), (10, .invokevirtual 85, 3), (13, .iload_n 1, 1), (14, .if_icmp .ne 5, 3), (17, .iload_n 2, 1), (18, .ireturn, 1), (19, .iinc 2 1, 3), (22, .goto (-20), 3), (25, .ldc 103, 2), (27, .ireturn, 1)]
set_option maxRecDepth 100000 in
theorem tk_X2_nightsUntil_1 : (tb_X2_nightsUntil_1.all fun q => decide (decode cX2_nightsUntil q.1 = .ok q.2)) = true := by decide +kernel
theorem dX2_nightsUntil_0 : decode cX2_nightsUntil 0 = .ok (.iconst 0, 1) := tb_d tk_X2_nightsUntil_1 0 (0, .iconst 0, 1) rfl
theorem dX2_nightsUntil_1 : decode cX2_nightsUntil 1 = .ok (.istore_n 2, 1) := tb_d tk_X2_nightsUntil_1 1 (1, .istore_n 2, 1) rfl
theorem dX2_nightsUntil_2 : decode cX2_nightsUntil 2 = .ok (.iload_n 2, 1) := tb_d tk_X2_nightsUntil_1 2 (2, .iload_n 2, 1) rfl
theorem dX2_nightsUntil_3 : decode cX2_nightsUntil 3 = .ok (.bipush 60, 2) := tb_d tk_X2_nightsUntil_1 3 (3, .bipush 60, 2) rfl
theorem dX2_nightsUntil_5 : decode cX2_nightsUntil 5 = .ok (.if_icmp .gt 20, 3) := tb_d tk_X2_nightsUntil_1 4 (5, .if_icmp .gt 20, 3) rfl
theorem dX2_nightsUntil_8 : decode cX2_nightsUntil 8 = .ok (.aload_n 0, 1) := tb_d tk_X2_nightsUntil_1 5 (8, .aload_n 0, 1) rfl
theorem dX2_nightsUntil_9 : decode cX2_nightsUntil 9 = .ok (.iload_n 2, 1) := tb_d tk_X2_nightsUntil_1 6 (9, .iload_n 2, 1) rfl
theorem dX2_nightsUntil_10 : decode cX2_nightsUntil 10 = .ok (.invokevirtual 85, 3) := tb_d tk_X2_nightsUntil_1 7 (10, .invokevirtual 85, 3) rfl
theorem dX2_nightsUntil_13 : decode cX2_nightsUntil 13 = .ok (.iload_n 1, 1) := tb_d tk_X2_nightsUntil_1 8 (13, .iload_n 1, 1) rfl
theorem dX2_nightsUntil_14 : decode cX2_nightsUntil 14 = .ok (.if_icmp .ne 5, 3) := tb_d tk_X2_nightsUntil_1 9 (14, .if_icmp .ne 5, 3) rfl
theorem dX2_nightsUntil_17 : decode cX2_nightsUntil 17 = .ok (.iload_n 2, 1) := tb_d tk_X2_nightsUntil_1 10 (17, .iload_n 2, 1) rfl
theorem dX2_nightsUntil_18 : decode cX2_nightsUntil 18 = .ok (.ireturn, 1) := tb_d tk_X2_nightsUntil_1 11 (18, .ireturn, 1) rfl
theorem dX2_nightsUntil_19 : decode cX2_nightsUntil 19 = .ok (.iinc 2 1, 3) := tb_d tk_X2_nightsUntil_1 12 (19, .iinc 2 1, 3) rfl
theorem dX2_nightsUntil_22 : decode cX2_nightsUntil 22 = .ok (.goto (-20), 3) := tb_d tk_X2_nightsUntil_1 13 (22, .goto (-20), 3) rfl
theorem dX2_nightsUntil_25 : decode cX2_nightsUntil 25 = .ok (.ldc 103, 2) := tb_d tk_X2_nightsUntil_1 14 (25, .ldc 103, 2) rfl
theorem dX2_nightsUntil_27 : decode cX2_nightsUntil 27 = .ok (.ireturn, 1) := tb_d tk_X2_nightsUntil_1 15 (27, .ireturn, 1) rfl
theorem ggX2_hourIn_X2_catches : GoodIn wsX2_hourIn wsX2_catches := fun w h => ⟨List.mem_cons_of_mem _ (List.mem_append_right _ (List.mem_append_right _ (List.mem_append_right _ (List.mem_append_right _ (List.mem_append_left _ h))))), good_of_word (gdX2_catches w h)⟩
set_option maxRecDepth 20000 in
theorem gX2_hourIn_X2_catches : GoodIn wsX2_hourIn (wsV RX2 96 RX2 yX2_catches wsX2_catches) := goodIn_app (a := bkV RX2 96 RX2 yX2_catches) (fun w h => ⟨List.mem_cons_of_mem _ (List.mem_append_right _ (List.mem_append_left _ h)), good_of_word (gd_bV _ _ _ _ w h)⟩) ggX2_hourIn_X2_catches
def tb_X2_hourIn_1 : List (Nat × Instr × Nat) := [(0, .iload_n 2, 1), (1, .istore_n 3, 1), (2, .iload_n 3, 1), (3, .bipush 6, 2), (5, .if_icmp .ge 21, 3), (8, .aload_n 0, 1), (9, .iload_n 1, 1), (10, .iload_n 3, 1), (11, .iconst 0, 1), (12, .invokevirtual 96, 3), (15, .ifCond .ne 5, 3), (18, .iload_n 3, 1), (19, .ireturn, 1), (20, .iinc 3 1, 3), (23, .goto (-21), 3), (26, .ldc 103, 2), (28, .ireturn, 1)]
set_option maxRecDepth 100000 in
theorem tk_X2_hourIn_1 : (tb_X2_hourIn_1.all fun q => decide (decode cX2_hourIn q.1 = .ok q.2)) = true := by decide +kernel
theorem dX2_hourIn_0 : decode cX2_hourIn 0 = .ok (.iload_n 2, 1) := tb_d tk_X2_hourIn_1 0 (0, .iload_n 2, 1) rfl
theorem dX2_hourIn_1 : decode cX2_hourIn 1 = .ok (.istore_n 3, 1) := tb_d tk_X2_hourIn_1 1 (1, .istore_n 3, 1) rfl
theorem dX2_hourIn_2 : decode cX2_hourIn 2 = .ok (.iload_n 3, 1) := tb_d tk_X2_hourIn_1 2 (2, .iload_n 3, 1) rfl
theorem dX2_hourIn_3 : decode cX2_hourIn 3 = .ok (.bipush 6, 2) := tb_d tk_X2_hourIn_1 3 (3, .bipush 6, 2) rfl
theorem dX2_hourIn_5 : decode cX2_hourIn 5 = .ok (.if_icmp .ge 21, 3) := tb_d tk_X2_hourIn_1 4 (5, .if_icmp .ge 21, 3) rfl
theorem dX2_hourIn_8 : decode cX2_hourIn 8 = .ok (.aload_n 0, 1) := tb_d tk_X2_hourIn_1 5 (8, .aload_n 0, 1) rfl
theorem dX2_hourIn_9 : decode cX2_hourIn 9 = .ok (.iload_n 1, 1) := tb_d tk_X2_hourIn_1 6 (9, .iload_n 1, 1) rfl
theorem dX2_hourIn_10 : decode cX2_hourIn 10 = .ok (.iload_n 3, 1) := tb_d tk_X2_hourIn_1 7 (10, .iload_n 3, 1) rfl
theorem dX2_hourIn_11 : decode cX2_hourIn 11 = .ok (.iconst 0, 1) := tb_d tk_X2_hourIn_1 8 (11, .iconst 0, 1) rfl
theorem dX2_hourIn_12 : decode cX2_hourIn 12 = .ok (.invokevirtual 96, 3) := tb_d tk_X2_hourIn_1 9 (12, .invokevirtual 96, 3) rfl
theorem dX2_hourIn_15 : decode cX2_hourIn 15 = .ok (.ifCond .ne 5, 3) := tb_d tk_X2_hourIn_1 10 (15, .ifCond .ne 5, 3) rfl
theorem dX2_hourIn_18 : decode cX2_hourIn 18 = .ok (.iload_n 3, 1) := tb_d tk_X2_hourIn_1 11 (18, .iload_n 3, 1) rfl
theorem dX2_hourIn_19 : decode cX2_hourIn 19 = .ok (.ireturn, 1) := tb_d tk_X2_hourIn_1 12 (19, .ireturn, 1) rfl
theorem dX2_hourIn_20 : decode cX2_hourIn 20 = .ok (.iinc 3 1, 3) := tb_d tk_X2_hourIn_1 13 (20, .iinc 3 1, 3) rfl
theorem dX2_hourIn_23 : decode cX2_hourIn 23 = .ok (.goto (-21), 3) := tb_d tk_X2_hourIn_1 14 (23, .goto (-21), 3) rfl
theorem dX2_hourIn_26 : decode cX2_hourIn 26 = .ok (.ldc 103, 2) := tb_d tk_X2_hourIn_1 15 (26, .ldc 103, 2) rfl
theorem dX2_hourIn_28 : decode cX2_hourIn 28 = .ok (.ireturn, 1) := tb_d tk_X2_hourIn_1 16 (28, .ireturn, 1) rfl
theorem ggX2_guardsAgainst_X2_wordsIn : GoodIn wsX2_guardsAgainst wsX2_wordsIn := fun w h => ⟨List.mem_cons_of_mem _ (List.mem_append_right _ (List.mem_append_right _ (List.mem_append_right _ (List.mem_append_right _ (List.mem_append_right _ (List.mem_append_left _ h)))))), good_of_word (gdX2_wordsIn w h)⟩
set_option maxRecDepth 20000 in
theorem gX2_guardsAgainst_X2_wordsIn : GoodIn wsX2_guardsAgainst (wsV RX2 100 RX2 yX2_wordsIn wsX2_wordsIn) := goodIn_app (a := bkV RX2 100 RX2 yX2_wordsIn) (fun w h => ⟨List.mem_cons_of_mem _ (List.mem_append_right _ (List.mem_append_left _ h)), good_of_word (gd_bV _ _ _ _ w h)⟩) ggX2_guardsAgainst_X2_wordsIn
theorem ggX2_guardsAgainst_X2_guardOn : GoodIn wsX2_guardsAgainst wsX2_guardOn := fun w h => ⟨List.mem_cons_of_mem _ (List.mem_append_right _ (List.mem_append_right _ (List.mem_append_right _ (List.mem_append_right _ (List.mem_append_right _ (List.mem_append_right _ (List.mem_append_left _ h))))))), good_of_word (gdX2_guardOn w h)⟩
set_option maxRecDepth 20000 in
theorem gX2_guardsAgainst_X2_guardOn : GoodIn wsX2_guardsAgainst (wsV RX2 74 RX2 yX2_guardOn wsX2_guardOn) := goodIn_app (a := bkV RX2 74 RX2 yX2_guardOn) (fun w h => ⟨List.mem_cons_of_mem _ (List.mem_append_right _ (List.mem_append_right _ (List.mem_append_left _ h))), good_of_word (gd_bV _ _ _ _ w h)⟩) ggX2_guardsAgainst_X2_guardOn
def tb_X2_guardsAgainst_1 : List (Nat × Instr × Nat) := [(0, .iconst 0, 1), (1, .istore_n 3, 1), (2, .iconst 0, 1), (3, .istore 4, 2), (5, .iload 4, 2), (7, .bipush 6, 2), (9, .if_icmp .ge 43, 3), (12, .iload_n 1, 1), (13, .aload_n 0, 1), (14, .iload 4, 2), (16, .iload_n 2, 1), (17, .invokevirtual 100, 3), (20, .iconst (-1), 1), (21, .ixor, 1), (22, .iand, 1), (23, .ifCond .eq 23, 3), (26, .iload_n 3, 1), (27, .iconst 1, 1), (28, .aload_n 0, 1), (29, .aload_n 0, 1), (30, .getfield 24, 3), (33, .getfield 58, 3), (36, .iload_n 2, 1), (37, .iadd, 1), (38, .iload 4, 2), (40, .invokevirtual 74, 3), (43, .ishl, 1), (44, .ior, 1), (45, .istore_n 3, 1), (46, .iinc 4 1, 3), (49, .goto (-44), 3), (52, .iload_n 3, 1), (53, .ireturn, 1)]
set_option maxRecDepth 100000 in
theorem tk_X2_guardsAgainst_1 : (tb_X2_guardsAgainst_1.all fun q => decide (decode cX2_guardsAgainst q.1 = .ok q.2)) = true := by decide +kernel
theorem dX2_guardsAgainst_0 : decode cX2_guardsAgainst 0 = .ok (.iconst 0, 1) := tb_d tk_X2_guardsAgainst_1 0 (0, .iconst 0, 1) rfl
theorem dX2_guardsAgainst_1 : decode cX2_guardsAgainst 1 = .ok (.istore_n 3, 1) := tb_d tk_X2_guardsAgainst_1 1 (1, .istore_n 3, 1) rfl
theorem dX2_guardsAgainst_2 : decode cX2_guardsAgainst 2 = .ok (.iconst 0, 1) := tb_d tk_X2_guardsAgainst_1 2 (2, .iconst 0, 1) rfl
theorem dX2_guardsAgainst_3 : decode cX2_guardsAgainst 3 = .ok (.istore 4, 2) := tb_d tk_X2_guardsAgainst_1 3 (3, .istore 4, 2) rfl
theorem dX2_guardsAgainst_5 : decode cX2_guardsAgainst 5 = .ok (.iload 4, 2) := tb_d tk_X2_guardsAgainst_1 4 (5, .iload 4, 2) rfl
theorem dX2_guardsAgainst_7 : decode cX2_guardsAgainst 7 = .ok (.bipush 6, 2) := tb_d tk_X2_guardsAgainst_1 5 (7, .bipush 6, 2) rfl
theorem dX2_guardsAgainst_9 : decode cX2_guardsAgainst 9 = .ok (.if_icmp .ge 43, 3) := tb_d tk_X2_guardsAgainst_1 6 (9, .if_icmp .ge 43, 3) rfl
theorem dX2_guardsAgainst_12 : decode cX2_guardsAgainst 12 = .ok (.iload_n 1, 1) := tb_d tk_X2_guardsAgainst_1 7 (12, .iload_n 1, 1) rfl
theorem dX2_guardsAgainst_13 : decode cX2_guardsAgainst 13 = .ok (.aload_n 0, 1) := tb_d tk_X2_guardsAgainst_1 8 (13, .aload_n 0, 1) rfl
theorem dX2_guardsAgainst_14 : decode cX2_guardsAgainst 14 = .ok (.iload 4, 2) := tb_d tk_X2_guardsAgainst_1 9 (14, .iload 4, 2) rfl
theorem dX2_guardsAgainst_16 : decode cX2_guardsAgainst 16 = .ok (.iload_n 2, 1) := tb_d tk_X2_guardsAgainst_1 10 (16, .iload_n 2, 1) rfl
theorem dX2_guardsAgainst_17 : decode cX2_guardsAgainst 17 = .ok (.invokevirtual 100, 3) := tb_d tk_X2_guardsAgainst_1 11 (17, .invokevirtual 100, 3) rfl
theorem dX2_guardsAgainst_20 : decode cX2_guardsAgainst 20 = .ok (.iconst (-1), 1) := tb_d tk_X2_guardsAgainst_1 12 (20, .iconst (-1), 1) rfl
theorem dX2_guardsAgainst_21 : decode cX2_guardsAgainst 21 = .ok (.ixor, 1) := tb_d tk_X2_guardsAgainst_1 13 (21, .ixor, 1) rfl
theorem dX2_guardsAgainst_22 : decode cX2_guardsAgainst 22 = .ok (.iand, 1) := tb_d tk_X2_guardsAgainst_1 14 (22, .iand, 1) rfl
theorem dX2_guardsAgainst_23 : decode cX2_guardsAgainst 23 = .ok (.ifCond .eq 23, 3) := tb_d tk_X2_guardsAgainst_1 15 (23, .ifCond .eq 23, 3) rfl
theorem dX2_guardsAgainst_26 : decode cX2_guardsAgainst 26 = .ok (.iload_n 3, 1) := tb_d tk_X2_guardsAgainst_1 16 (26, .iload_n 3, 1) rfl
theorem dX2_guardsAgainst_27 : decode cX2_guardsAgainst 27 = .ok (.iconst 1, 1) := tb_d tk_X2_guardsAgainst_1 17 (27, .iconst 1, 1) rfl
theorem dX2_guardsAgainst_28 : decode cX2_guardsAgainst 28 = .ok (.aload_n 0, 1) := tb_d tk_X2_guardsAgainst_1 18 (28, .aload_n 0, 1) rfl
theorem dX2_guardsAgainst_29 : decode cX2_guardsAgainst 29 = .ok (.aload_n 0, 1) := tb_d tk_X2_guardsAgainst_1 19 (29, .aload_n 0, 1) rfl
theorem dX2_guardsAgainst_30 : decode cX2_guardsAgainst 30 = .ok (.getfield 24, 3) := tb_d tk_X2_guardsAgainst_1 20 (30, .getfield 24, 3) rfl
theorem dX2_guardsAgainst_33 : decode cX2_guardsAgainst 33 = .ok (.getfield 58, 3) := tb_d tk_X2_guardsAgainst_1 21 (33, .getfield 58, 3) rfl
theorem dX2_guardsAgainst_36 : decode cX2_guardsAgainst 36 = .ok (.iload_n 2, 1) := tb_d tk_X2_guardsAgainst_1 22 (36, .iload_n 2, 1) rfl
theorem dX2_guardsAgainst_37 : decode cX2_guardsAgainst 37 = .ok (.iadd, 1) := tb_d tk_X2_guardsAgainst_1 23 (37, .iadd, 1) rfl
theorem dX2_guardsAgainst_38 : decode cX2_guardsAgainst 38 = .ok (.iload 4, 2) := tb_d tk_X2_guardsAgainst_1 24 (38, .iload 4, 2) rfl
theorem dX2_guardsAgainst_40 : decode cX2_guardsAgainst 40 = .ok (.invokevirtual 74, 3) := tb_d tk_X2_guardsAgainst_1 25 (40, .invokevirtual 74, 3) rfl
theorem dX2_guardsAgainst_43 : decode cX2_guardsAgainst 43 = .ok (.ishl, 1) := tb_d tk_X2_guardsAgainst_1 26 (43, .ishl, 1) rfl
theorem dX2_guardsAgainst_44 : decode cX2_guardsAgainst 44 = .ok (.ior, 1) := tb_d tk_X2_guardsAgainst_1 27 (44, .ior, 1) rfl
theorem dX2_guardsAgainst_45 : decode cX2_guardsAgainst 45 = .ok (.istore_n 3, 1) := tb_d tk_X2_guardsAgainst_1 28 (45, .istore_n 3, 1) rfl
theorem dX2_guardsAgainst_46 : decode cX2_guardsAgainst 46 = .ok (.iinc 4 1, 3) := tb_d tk_X2_guardsAgainst_1 29 (46, .iinc 4 1, 3) rfl
theorem dX2_guardsAgainst_49 : decode cX2_guardsAgainst 49 = .ok (.goto (-44), 3) := tb_d tk_X2_guardsAgainst_1 30 (49, .goto (-44), 3) rfl
theorem dX2_guardsAgainst_52 : decode cX2_guardsAgainst 52 = .ok (.iload_n 3, 1) := tb_d tk_X2_guardsAgainst_1 31 (52, .iload_n 3, 1) rfl
theorem dX2_guardsAgainst_53 : decode cX2_guardsAgainst 53 = .ok (.ireturn, 1) := tb_d tk_X2_guardsAgainst_1 32 (53, .ireturn, 1) rfl
def tb_X2_feeOf_1 : List (Nat × Instr × Nat) := [(0, .iconst 0, 1), (1, .istore_n 2, 1), (2, .iconst 0, 1), (3, .istore_n 3, 1), (4, .iload_n 3, 1), (5, .aload_n 0, 1), (6, .getfield 48, 3), (9, .if_icmp .ge 24, 3), (12, .iload_n 2, 1), (13, .iload_n 1, 1), (14, .iload_n 3, 1), (15, .ishr, 1), (16, .iconst 1, 1), (17, .iand, 1), (18, .aload_n 0, 1), (19, .getfield 18, 3), (22, .iload_n 3, 1), (23, .iaload, 1), (24, .imul, 1), (25, .iadd, 1), (26, .istore_n 2, 1), (27, .iinc 3 1, 3), (30, .goto (-26), 3), (33, .iload_n 2, 1), (34, .ireturn, 1)]
set_option maxRecDepth 100000 in
theorem tk_X2_feeOf_1 : (tb_X2_feeOf_1.all fun q => decide (decode cX2_feeOf q.1 = .ok q.2)) = true := by decide +kernel
theorem dX2_feeOf_0 : decode cX2_feeOf 0 = .ok (.iconst 0, 1) := tb_d tk_X2_feeOf_1 0 (0, .iconst 0, 1) rfl
theorem dX2_feeOf_1 : decode cX2_feeOf 1 = .ok (.istore_n 2, 1) := tb_d tk_X2_feeOf_1 1 (1, .istore_n 2, 1) rfl
theorem dX2_feeOf_2 : decode cX2_feeOf 2 = .ok (.iconst 0, 1) := tb_d tk_X2_feeOf_1 2 (2, .iconst 0, 1) rfl
theorem dX2_feeOf_3 : decode cX2_feeOf 3 = .ok (.istore_n 3, 1) := tb_d tk_X2_feeOf_1 3 (3, .istore_n 3, 1) rfl
theorem dX2_feeOf_4 : decode cX2_feeOf 4 = .ok (.iload_n 3, 1) := tb_d tk_X2_feeOf_1 4 (4, .iload_n 3, 1) rfl
theorem dX2_feeOf_5 : decode cX2_feeOf 5 = .ok (.aload_n 0, 1) := tb_d tk_X2_feeOf_1 5 (5, .aload_n 0, 1) rfl
theorem dX2_feeOf_6 : decode cX2_feeOf 6 = .ok (.getfield 48, 3) := tb_d tk_X2_feeOf_1 6 (6, .getfield 48, 3) rfl
theorem dX2_feeOf_9 : decode cX2_feeOf 9 = .ok (.if_icmp .ge 24, 3) := tb_d tk_X2_feeOf_1 7 (9, .if_icmp .ge 24, 3) rfl
theorem dX2_feeOf_12 : decode cX2_feeOf 12 = .ok (.iload_n 2, 1) := tb_d tk_X2_feeOf_1 8 (12, .iload_n 2, 1) rfl
theorem dX2_feeOf_13 : decode cX2_feeOf 13 = .ok (.iload_n 1, 1) := tb_d tk_X2_feeOf_1 9 (13, .iload_n 1, 1) rfl
theorem dX2_feeOf_14 : decode cX2_feeOf 14 = .ok (.iload_n 3, 1) := tb_d tk_X2_feeOf_1 10 (14, .iload_n 3, 1) rfl
theorem dX2_feeOf_15 : decode cX2_feeOf 15 = .ok (.ishr, 1) := tb_d tk_X2_feeOf_1 11 (15, .ishr, 1) rfl
theorem dX2_feeOf_16 : decode cX2_feeOf 16 = .ok (.iconst 1, 1) := tb_d tk_X2_feeOf_1 12 (16, .iconst 1, 1) rfl
theorem dX2_feeOf_17 : decode cX2_feeOf 17 = .ok (.iand, 1) := tb_d tk_X2_feeOf_1 13 (17, .iand, 1) rfl
theorem dX2_feeOf_18 : decode cX2_feeOf 18 = .ok (.aload_n 0, 1) := tb_d tk_X2_feeOf_1 14 (18, .aload_n 0, 1) rfl
theorem dX2_feeOf_19 : decode cX2_feeOf 19 = .ok (.getfield 18, 3) := tb_d tk_X2_feeOf_1 15 (19, .getfield 18, 3) rfl
theorem dX2_feeOf_22 : decode cX2_feeOf 22 = .ok (.iload_n 3, 1) := tb_d tk_X2_feeOf_1 16 (22, .iload_n 3, 1) rfl
theorem dX2_feeOf_23 : decode cX2_feeOf 23 = .ok (.iaload, 1) := tb_d tk_X2_feeOf_1 17 (23, .iaload, 1) rfl
theorem dX2_feeOf_24 : decode cX2_feeOf 24 = .ok (.imul, 1) := tb_d tk_X2_feeOf_1 18 (24, .imul, 1) rfl
theorem dX2_feeOf_25 : decode cX2_feeOf 25 = .ok (.iadd, 1) := tb_d tk_X2_feeOf_1 19 (25, .iadd, 1) rfl
theorem dX2_feeOf_26 : decode cX2_feeOf 26 = .ok (.istore_n 2, 1) := tb_d tk_X2_feeOf_1 20 (26, .istore_n 2, 1) rfl
theorem dX2_feeOf_27 : decode cX2_feeOf 27 = .ok (.iinc 3 1, 3) := tb_d tk_X2_feeOf_1 21 (27, .iinc 3 1, 3) rfl
theorem dX2_feeOf_30 : decode cX2_feeOf 30 = .ok (.goto (-26), 3) := tb_d tk_X2_feeOf_1 22 (30, .goto (-26), 3) rfl
theorem dX2_feeOf_33 : decode cX2_feeOf 33 = .ok (.iload_n 2, 1) := tb_d tk_X2_feeOf_1 23 (33, .iload_n 2, 1) rfl
theorem dX2_feeOf_34 : decode cX2_feeOf 34 = .ok (.ireturn, 1) := tb_d tk_X2_feeOf_1 24 (34, .ireturn, 1) rfl
theorem ggX2_nearestTo_X2_distance : GoodIn wsX2_nearestTo wsX2_distance := fun w h => ⟨List.mem_cons_of_mem _ (List.mem_append_right _ (List.mem_append_right _ (List.mem_append_right _ (List.mem_append_left _ h)))), good_of_word (gdX2_distance w h)⟩
set_option maxRecDepth 20000 in
theorem gX2_nearestTo_X2_distance : GoodIn wsX2_nearestTo (wsV RX2 68 RX2 yX2_distance wsX2_distance) := goodIn_app (a := bkV RX2 68 RX2 yX2_distance) (fun w h => ⟨List.mem_cons_of_mem _ (List.mem_append_right _ (List.mem_append_left _ h)), good_of_word (gd_bV _ _ _ _ w h)⟩) ggX2_nearestTo_X2_distance
def tb_X2_nearestTo_1 : List (Nat × Instr × Nat) := [(0, .ldc 103, 2), (2, .istore_n 2, 1), (3, .iconst 4, 1), (4, .istore_n 3, 1), (5, .iconst 0, 1), (6, .istore 4, 2), (8, .iload 4, 2), (10, .aload_n 0, 1), (11, .getfield 45, 3), (14, .if_icmp .ge 37, 3), (17, .iload 4, 2), (19, .iload_n 1, 1), (20, .if_icmp .eq 25, 3), (23, .aload_n 0, 1), (24, .iload_n 1, 1), (25, .iload 4, 2), (27, .invokevirtual 68, 3), (30, .iload_n 3, 1), (31, .if_icmp .ge 14, 3), (34, .iload 4, 2), (36, .istore_n 2, 1), (37, .aload_n 0, 1), (38, .iload_n 1, 1), (39, .iload 4, 2), (41, .invokevirtual 68, 3), (44, .istore_n 3, 1), (45, .iinc 4 1, 3), (48, .goto (-40), 3), (51, .iload_n 2, 1), (52, .ireturn, 1)]
set_option maxRecDepth 100000 in
theorem tk_X2_nearestTo_1 : (tb_X2_nearestTo_1.all fun q => decide (decode cX2_nearestTo q.1 = .ok q.2)) = true := by decide +kernel
theorem dX2_nearestTo_0 : decode cX2_nearestTo 0 = .ok (.ldc 103, 2) := tb_d tk_X2_nearestTo_1 0 (0, .ldc 103, 2) rfl
theorem dX2_nearestTo_2 : decode cX2_nearestTo 2 = .ok (.istore_n 2, 1) := tb_d tk_X2_nearestTo_1 1 (2, .istore_n 2, 1) rfl
theorem dX2_nearestTo_3 : decode cX2_nearestTo 3 = .ok (.iconst 4, 1) := tb_d tk_X2_nearestTo_1 2 (3, .iconst 4, 1) rfl
theorem dX2_nearestTo_4 : decode cX2_nearestTo 4 = .ok (.istore_n 3, 1) := tb_d tk_X2_nearestTo_1 3 (4, .istore_n 3, 1) rfl
theorem dX2_nearestTo_5 : decode cX2_nearestTo 5 = .ok (.iconst 0, 1) := tb_d tk_X2_nearestTo_1 4 (5, .iconst 0, 1) rfl
theorem dX2_nearestTo_6 : decode cX2_nearestTo 6 = .ok (.istore 4, 2) := tb_d tk_X2_nearestTo_1 5 (6, .istore 4, 2) rfl
theorem dX2_nearestTo_8 : decode cX2_nearestTo 8 = .ok (.iload 4, 2) := tb_d tk_X2_nearestTo_1 6 (8, .iload 4, 2) rfl
theorem dX2_nearestTo_10 : decode cX2_nearestTo 10 = .ok (.aload_n 0, 1) := tb_d tk_X2_nearestTo_1 7 (10, .aload_n 0, 1) rfl
theorem dX2_nearestTo_11 : decode cX2_nearestTo 11 = .ok (.getfield 45, 3) := tb_d tk_X2_nearestTo_1 8 (11, .getfield 45, 3) rfl
theorem dX2_nearestTo_14 : decode cX2_nearestTo 14 = .ok (.if_icmp .ge 37, 3) := tb_d tk_X2_nearestTo_1 9 (14, .if_icmp .ge 37, 3) rfl
theorem dX2_nearestTo_17 : decode cX2_nearestTo 17 = .ok (.iload 4, 2) := tb_d tk_X2_nearestTo_1 10 (17, .iload 4, 2) rfl
theorem dX2_nearestTo_19 : decode cX2_nearestTo 19 = .ok (.iload_n 1, 1) := tb_d tk_X2_nearestTo_1 11 (19, .iload_n 1, 1) rfl
theorem dX2_nearestTo_20 : decode cX2_nearestTo 20 = .ok (.if_icmp .eq 25, 3) := tb_d tk_X2_nearestTo_1 12 (20, .if_icmp .eq 25, 3) rfl
theorem dX2_nearestTo_23 : decode cX2_nearestTo 23 = .ok (.aload_n 0, 1) := tb_d tk_X2_nearestTo_1 13 (23, .aload_n 0, 1) rfl
theorem dX2_nearestTo_24 : decode cX2_nearestTo 24 = .ok (.iload_n 1, 1) := tb_d tk_X2_nearestTo_1 14 (24, .iload_n 1, 1) rfl
theorem dX2_nearestTo_25 : decode cX2_nearestTo 25 = .ok (.iload 4, 2) := tb_d tk_X2_nearestTo_1 15 (25, .iload 4, 2) rfl
theorem dX2_nearestTo_27 : decode cX2_nearestTo 27 = .ok (.invokevirtual 68, 3) := tb_d tk_X2_nearestTo_1 16 (27, .invokevirtual 68, 3) rfl
theorem dX2_nearestTo_30 : decode cX2_nearestTo 30 = .ok (.iload_n 3, 1) := tb_d tk_X2_nearestTo_1 17 (30, .iload_n 3, 1) rfl
theorem dX2_nearestTo_31 : decode cX2_nearestTo 31 = .ok (.if_icmp .ge 14, 3) := tb_d tk_X2_nearestTo_1 18 (31, .if_icmp .ge 14, 3) rfl
theorem dX2_nearestTo_34 : decode cX2_nearestTo 34 = .ok (.iload 4, 2) := tb_d tk_X2_nearestTo_1 19 (34, .iload 4, 2) rfl
theorem dX2_nearestTo_36 : decode cX2_nearestTo 36 = .ok (.istore_n 2, 1) := tb_d tk_X2_nearestTo_1 20 (36, .istore_n 2, 1) rfl
theorem dX2_nearestTo_37 : decode cX2_nearestTo 37 = .ok (.aload_n 0, 1) := tb_d tk_X2_nearestTo_1 21 (37, .aload_n 0, 1) rfl
theorem dX2_nearestTo_38 : decode cX2_nearestTo 38 = .ok (.iload_n 1, 1) := tb_d tk_X2_nearestTo_1 22 (38, .iload_n 1, 1) rfl
theorem dX2_nearestTo_39 : decode cX2_nearestTo 39 = .ok (.iload 4, 2) := tb_d tk_X2_nearestTo_1 23 (39, .iload 4, 2) rfl
theorem dX2_nearestTo_41 : decode cX2_nearestTo 41 = .ok (.invokevirtual 68, 3) := tb_d tk_X2_nearestTo_1 24 (41, .invokevirtual 68, 3) rfl
theorem dX2_nearestTo_44 : decode cX2_nearestTo 44 = .ok (.istore_n 3, 1) := tb_d tk_X2_nearestTo_1 25 (44, .istore_n 3, 1) rfl
theorem dX2_nearestTo_45 : decode cX2_nearestTo 45 = .ok (.iinc 4 1, 3) := tb_d tk_X2_nearestTo_1 26 (45, .iinc 4 1, 3) rfl
theorem dX2_nearestTo_48 : decode cX2_nearestTo 48 = .ok (.goto (-40), 3) := tb_d tk_X2_nearestTo_1 27 (48, .goto (-40), 3) rfl
theorem dX2_nearestTo_51 : decode cX2_nearestTo 51 = .ok (.iload_n 2, 1) := tb_d tk_X2_nearestTo_1 28 (51, .iload_n 2, 1) rfl
theorem dX2_nearestTo_52 : decode cX2_nearestTo 52 = .ok (.ireturn, 1) := tb_d tk_X2_nearestTo_1 29 (52, .ireturn, 1) rfl
def tb_X3_init_1 : List (Nat × Instr × Nat) := [(0, .aload_n 0, 1), (1, .invokespecial 3, 3), (4, .aload_n 0, 1), (5, .bipush 36, 2), (7, .newarray .int, 2), (9, .putfield 9, 3), (12, .aload_n 0, 1), (13, .bipush 64, 2), (15, .newarray .int, 2), (17, .putfield 15, 3), (20, .return_, 1)]
set_option maxRecDepth 100000 in
theorem tk_X3_init_1 : (tb_X3_init_1.all fun q => decide (decode cX3_init q.1 = .ok q.2)) = true := by decide +kernel
theorem dX3_init_0 : decode cX3_init 0 = .ok (.aload_n 0, 1) := tb_d tk_X3_init_1 0 (0, .aload_n 0, 1) rfl
theorem dX3_init_1 : decode cX3_init 1 = .ok (.invokespecial 3, 3) := tb_d tk_X3_init_1 1 (1, .invokespecial 3, 3) rfl
theorem dX3_init_4 : decode cX3_init 4 = .ok (.aload_n 0, 1) := tb_d tk_X3_init_1 2 (4, .aload_n 0, 1) rfl
theorem dX3_init_5 : decode cX3_init 5 = .ok (.bipush 36, 2) := tb_d tk_X3_init_1 3 (5, .bipush 36, 2) rfl
theorem dX3_init_7 : decode cX3_init 7 = .ok (.newarray .int, 2) := tb_d tk_X3_init_1 4 (7, .newarray .int, 2) rfl
theorem dX3_init_9 : decode cX3_init 9 = .ok (.putfield 9, 3) := tb_d tk_X3_init_1 5 (9, .putfield 9, 3) rfl
theorem dX3_init_12 : decode cX3_init 12 = .ok (.aload_n 0, 1) := tb_d tk_X3_init_1 6 (12, .aload_n 0, 1) rfl
theorem dX3_init_13 : decode cX3_init 13 = .ok (.bipush 64, 2) := tb_d tk_X3_init_1 7 (13, .bipush 64, 2) rfl
theorem dX3_init_15 : decode cX3_init 15 = .ok (.newarray .int, 2) := tb_d tk_X3_init_1 8 (15, .newarray .int, 2) rfl
theorem dX3_init_17 : decode cX3_init 17 = .ok (.putfield 15, 3) := tb_d tk_X3_init_1 9 (17, .putfield 15, 3) rfl
theorem dX3_init_20 : decode cX3_init 20 = .ok (.return_, 1) := tb_d tk_X3_init_1 10 (20, .return_, 1) rfl
theorem ggX3_agreeing_X3_agreesWithTries : GoodIn wsX3_agreeing wsX3_agreesWithTries := fun w h => ⟨List.mem_cons_of_mem _ (List.mem_append_right _ (List.mem_append_right _ (List.mem_append_right _ (List.mem_append_right _ (List.mem_append_left _ h))))), good_of_word (gdX3_agreesWithTries w h)⟩
set_option maxRecDepth 20000 in
theorem gX3_agreeing_X3_agreesWithTries : GoodIn wsX3_agreeing (va_wsS RX3 24 yX3_agreesWithTries wsX3_agreesWithTries) := goodIn_app (a := bkS RX3 24 yX3_agreesWithTries) (fun w h => ⟨List.mem_cons_of_mem _ (List.mem_append_right _ (List.mem_append_left _ h)), good_of_word (gd_bS _ _ _ w h)⟩) ggX3_agreeing_X3_agreesWithTries
theorem ggX3_agreeing_X7_bit : GoodIn wsX3_agreeing wsX7_bit := fun w h => ⟨List.mem_cons_of_mem _ (List.mem_append_right _ (List.mem_append_right _ (List.mem_append_right _ (List.mem_append_right _ (List.mem_append_right _ (List.mem_append_left _ h)))))), good_of_word (gdX7_bit w h)⟩
set_option maxRecDepth 20000 in
theorem gX3_agreeing_X7_bit_n28 : GoodIn wsX3_agreeing (wsX7_bit) := ggX3_agreeing_X7_bit
def tb_X3_agreeing_1 : List (Nat × Instr × Nat) := [(0, .iconst 0, 1), (1, .istore_n 1, 1), (2, .iconst 0, 1), (3, .istore_n 2, 1), (4, .iload_n 2, 1), (5, .aload_n 0, 1), (6, .getfield 18, 3), (9, .if_icmp .ge 22, 3), (12, .iload_n 1, 1), (13, .aload_n 0, 1), (14, .iload_n 2, 1), (15, .invokestatic 24, 3), (18, .invokestatic 28, 3), (21, .iload_n 2, 1), (22, .ishl, 1), (23, .ior, 1), (24, .istore_n 1, 1), (25, .iinc 2 1, 3), (28, .goto (-24), 3), (31, .iload_n 1, 1), (32, .ireturn, 1)]
set_option maxRecDepth 100000 in
theorem tk_X3_agreeing_1 : (tb_X3_agreeing_1.all fun q => decide (decode cX3_agreeing q.1 = .ok q.2)) = true := by decide +kernel
theorem dX3_agreeing_0 : decode cX3_agreeing 0 = .ok (.iconst 0, 1) := tb_d tk_X3_agreeing_1 0 (0, .iconst 0, 1) rfl
theorem dX3_agreeing_1 : decode cX3_agreeing 1 = .ok (.istore_n 1, 1) := tb_d tk_X3_agreeing_1 1 (1, .istore_n 1, 1) rfl
theorem dX3_agreeing_2 : decode cX3_agreeing 2 = .ok (.iconst 0, 1) := tb_d tk_X3_agreeing_1 2 (2, .iconst 0, 1) rfl
theorem dX3_agreeing_3 : decode cX3_agreeing 3 = .ok (.istore_n 2, 1) := tb_d tk_X3_agreeing_1 3 (3, .istore_n 2, 1) rfl
theorem dX3_agreeing_4 : decode cX3_agreeing 4 = .ok (.iload_n 2, 1) := tb_d tk_X3_agreeing_1 4 (4, .iload_n 2, 1) rfl
theorem dX3_agreeing_5 : decode cX3_agreeing 5 = .ok (.aload_n 0, 1) := tb_d tk_X3_agreeing_1 5 (5, .aload_n 0, 1) rfl
theorem dX3_agreeing_6 : decode cX3_agreeing 6 = .ok (.getfield 18, 3) := tb_d tk_X3_agreeing_1 6 (6, .getfield 18, 3) rfl
theorem dX3_agreeing_9 : decode cX3_agreeing 9 = .ok (.if_icmp .ge 22, 3) := tb_d tk_X3_agreeing_1 7 (9, .if_icmp .ge 22, 3) rfl
theorem dX3_agreeing_12 : decode cX3_agreeing 12 = .ok (.iload_n 1, 1) := tb_d tk_X3_agreeing_1 8 (12, .iload_n 1, 1) rfl
theorem dX3_agreeing_13 : decode cX3_agreeing 13 = .ok (.aload_n 0, 1) := tb_d tk_X3_agreeing_1 9 (13, .aload_n 0, 1) rfl
theorem dX3_agreeing_14 : decode cX3_agreeing 14 = .ok (.iload_n 2, 1) := tb_d tk_X3_agreeing_1 10 (14, .iload_n 2, 1) rfl
theorem dX3_agreeing_15 : decode cX3_agreeing 15 = .ok (.invokestatic 24, 3) := tb_d tk_X3_agreeing_1 11 (15, .invokestatic 24, 3) rfl
theorem dX3_agreeing_18 : decode cX3_agreeing 18 = .ok (.invokestatic 28, 3) := tb_d tk_X3_agreeing_1 12 (18, .invokestatic 28, 3) rfl
theorem dX3_agreeing_21 : decode cX3_agreeing 21 = .ok (.iload_n 2, 1) := tb_d tk_X3_agreeing_1 13 (21, .iload_n 2, 1) rfl
theorem dX3_agreeing_22 : decode cX3_agreeing 22 = .ok (.ishl, 1) := tb_d tk_X3_agreeing_1 14 (22, .ishl, 1) rfl
theorem dX3_agreeing_23 : decode cX3_agreeing 23 = .ok (.ior, 1) := tb_d tk_X3_agreeing_1 15 (23, .ior, 1) rfl
theorem dX3_agreeing_24 : decode cX3_agreeing 24 = .ok (.istore_n 1, 1) := tb_d tk_X3_agreeing_1 16 (24, .istore_n 1, 1) rfl
theorem dX3_agreeing_25 : decode cX3_agreeing 25 = .ok (.iinc 2 1, 3) := tb_d tk_X3_agreeing_1 17 (25, .iinc 2 1, 3) rfl
theorem dX3_agreeing_28 : decode cX3_agreeing 28 = .ok (.goto (-24), 3) := tb_d tk_X3_agreeing_1 18 (28, .goto (-24), 3) rfl
theorem dX3_agreeing_31 : decode cX3_agreeing 31 = .ok (.iload_n 1, 1) := tb_d tk_X3_agreeing_1 19 (31, .iload_n 1, 1) rfl
theorem dX3_agreeing_32 : decode cX3_agreeing 32 = .ok (.ireturn, 1) := tb_d tk_X3_agreeing_1 20 (32, .ireturn, 1) rfl
theorem ggX3_agreesWithTries_X2_wouldTake : GoodIn wsX3_agreesWithTries wsX2_wouldTake := fun w h => ⟨List.mem_cons_of_mem _ (List.mem_append_right _ (List.mem_append_right _ (List.mem_append_right _ (List.mem_append_right _ (List.mem_append_left _ h))))), good_of_word (gdX2_wouldTake w h)⟩
set_option maxRecDepth 20000 in
theorem gX3_agreesWithTries_X2_wouldTake : GoodIn wsX3_agreesWithTries (wsV RX3 56 RX2 yX2_wouldTake wsX2_wouldTake) := goodIn_app (a := bkV RX3 56 RX2 yX2_wouldTake) (fun w h => ⟨List.mem_cons_of_mem _ (List.mem_append_right _ (List.mem_append_left _ h)), good_of_word (gd_bV _ _ _ _ w h)⟩) ggX3_agreesWithTries_X2_wouldTake
theorem ggX3_agreesWithTries_X7_bit : GoodIn wsX3_agreesWithTries wsX7_bit := fun w h => ⟨List.mem_cons_of_mem _ (List.mem_append_right _ (List.mem_append_right _ (List.mem_append_right _ (List.mem_append_right _ (List.mem_append_right _ (List.mem_append_left _ h)))))), good_of_word (gdX7_bit w h)⟩
set_option maxRecDepth 20000 in
theorem gX3_agreesWithTries_X7_bit_n28 : GoodIn wsX3_agreesWithTries (wsX7_bit) := ggX3_agreesWithTries_X7_bit
def tb_X3_agreesWithTries_1 : List (Nat × Instr × Nat) := [(0, .aload_n 0, 1), (1, .getfield 32, 3), (4, .astore_n 2, 1), (5, .iconst 0, 1), (6, .istore_n 3, 1), (7, .iload_n 3, 1), (8, .aload_n 2, 1), (9, .getfield 36, 3), (12, .if_icmp .ge 79, 3), (15, .aload_n 2, 1), (16, .getfield 41, 3), (19, .iload_n 3, 1), (20, .iaload, 1), (21, .istore 4, 2), (23, .iload 4, 2), (25, .ifCond .lt 41, 3), (28, .iload 4, 2), (30, .aload_n 0, 1), (31, .getfield 44, 3), (34, .if_icmp .ge 32, 3), (37, .aload_n 0, 1), (38, .aload_n 0, 1), (39, .getfield 47, 3), (42, .iload 4, 2), (44, .iaload, 1), (45, .aload_n 2, 1), (46, .getfield 50, 3), (49, .iload_n 3, 1), (50, .iaload, 1), (51, .iload_n 1, 1), (52, .aload_n 2, 1), (53, .getfield 53, 3), (56, .invokevirtual 56, 3), (59, .ifCond .eq 7, 3), (62, .iconst 1, 1), (63, .goto 4, 3), (66, .iconst 0, 1), (67, .istore 5, 2), (69, .iload 5, 2), (71, .invokestatic 28, 3)]
set_option maxRecDepth 100000 in
theorem tk_X3_agreesWithTries_1 : (tb_X3_agreesWithTries_1.all fun q => decide (decode cX3_agreesWithTries q.1 = .ok q.2)) = true := by decide +kernel
theorem dX3_agreesWithTries_0 : decode cX3_agreesWithTries 0 = .ok (.aload_n 0, 1) := tb_d tk_X3_agreesWithTries_1 0 (0, .aload_n 0, 1) rfl
theorem dX3_agreesWithTries_1 : decode cX3_agreesWithTries 1 = .ok (.getfield 32, 3) := tb_d tk_X3_agreesWithTries_1 1 (1, .getfield 32, 3) rfl
theorem dX3_agreesWithTries_4 : decode cX3_agreesWithTries 4 = .ok (.astore_n 2, 1) := tb_d tk_X3_agreesWithTries_1 2 (4, .astore_n 2, 1) rfl
theorem dX3_agreesWithTries_5 : decode cX3_agreesWithTries 5 = .ok (.iconst 0, 1) := tb_d tk_X3_agreesWithTries_1 3 (5, .iconst 0, 1) rfl
theorem dX3_agreesWithTries_6 : decode cX3_agreesWithTries 6 = .ok (.istore_n 3, 1) := tb_d tk_X3_agreesWithTries_1 4 (6, .istore_n 3, 1) rfl
theorem dX3_agreesWithTries_7 : decode cX3_agreesWithTries 7 = .ok (.iload_n 3, 1) := tb_d tk_X3_agreesWithTries_1 5 (7, .iload_n 3, 1) rfl
theorem dX3_agreesWithTries_8 : decode cX3_agreesWithTries 8 = .ok (.aload_n 2, 1) := tb_d tk_X3_agreesWithTries_1 6 (8, .aload_n 2, 1) rfl
theorem dX3_agreesWithTries_9 : decode cX3_agreesWithTries 9 = .ok (.getfield 36, 3) := tb_d tk_X3_agreesWithTries_1 7 (9, .getfield 36, 3) rfl
theorem dX3_agreesWithTries_12 : decode cX3_agreesWithTries 12 = .ok (.if_icmp .ge 79, 3) := tb_d tk_X3_agreesWithTries_1 8 (12, .if_icmp .ge 79, 3) rfl
theorem dX3_agreesWithTries_15 : decode cX3_agreesWithTries 15 = .ok (.aload_n 2, 1) := tb_d tk_X3_agreesWithTries_1 9 (15, .aload_n 2, 1) rfl
theorem dX3_agreesWithTries_16 : decode cX3_agreesWithTries 16 = .ok (.getfield 41, 3) := tb_d tk_X3_agreesWithTries_1 10 (16, .getfield 41, 3) rfl
theorem dX3_agreesWithTries_19 : decode cX3_agreesWithTries 19 = .ok (.iload_n 3, 1) := tb_d tk_X3_agreesWithTries_1 11 (19, .iload_n 3, 1) rfl
theorem dX3_agreesWithTries_20 : decode cX3_agreesWithTries 20 = .ok (.iaload, 1) := tb_d tk_X3_agreesWithTries_1 12 (20, .iaload, 1) rfl
theorem dX3_agreesWithTries_21 : decode cX3_agreesWithTries 21 = .ok (.istore 4, 2) := tb_d tk_X3_agreesWithTries_1 13 (21, .istore 4, 2) rfl
theorem dX3_agreesWithTries_23 : decode cX3_agreesWithTries 23 = .ok (.iload 4, 2) := tb_d tk_X3_agreesWithTries_1 14 (23, .iload 4, 2) rfl
theorem dX3_agreesWithTries_25 : decode cX3_agreesWithTries 25 = .ok (.ifCond .lt 41, 3) := tb_d tk_X3_agreesWithTries_1 15 (25, .ifCond .lt 41, 3) rfl
theorem dX3_agreesWithTries_28 : decode cX3_agreesWithTries 28 = .ok (.iload 4, 2) := tb_d tk_X3_agreesWithTries_1 16 (28, .iload 4, 2) rfl
theorem dX3_agreesWithTries_30 : decode cX3_agreesWithTries 30 = .ok (.aload_n 0, 1) := tb_d tk_X3_agreesWithTries_1 17 (30, .aload_n 0, 1) rfl
theorem dX3_agreesWithTries_31 : decode cX3_agreesWithTries 31 = .ok (.getfield 44, 3) := tb_d tk_X3_agreesWithTries_1 18 (31, .getfield 44, 3) rfl
theorem dX3_agreesWithTries_34 : decode cX3_agreesWithTries 34 = .ok (.if_icmp .ge 32, 3) := tb_d tk_X3_agreesWithTries_1 19 (34, .if_icmp .ge 32, 3) rfl
theorem dX3_agreesWithTries_37 : decode cX3_agreesWithTries 37 = .ok (.aload_n 0, 1) := tb_d tk_X3_agreesWithTries_1 20 (37, .aload_n 0, 1) rfl
theorem dX3_agreesWithTries_38 : decode cX3_agreesWithTries 38 = .ok (.aload_n 0, 1) := tb_d tk_X3_agreesWithTries_1 21 (38, .aload_n 0, 1) rfl
theorem dX3_agreesWithTries_39 : decode cX3_agreesWithTries 39 = .ok (.getfield 47, 3) := tb_d tk_X3_agreesWithTries_1 22 (39, .getfield 47, 3) rfl
theorem dX3_agreesWithTries_42 : decode cX3_agreesWithTries 42 = .ok (.iload 4, 2) := tb_d tk_X3_agreesWithTries_1 23 (42, .iload 4, 2) rfl
theorem dX3_agreesWithTries_44 : decode cX3_agreesWithTries 44 = .ok (.iaload, 1) := tb_d tk_X3_agreesWithTries_1 24 (44, .iaload, 1) rfl
theorem dX3_agreesWithTries_45 : decode cX3_agreesWithTries 45 = .ok (.aload_n 2, 1) := tb_d tk_X3_agreesWithTries_1 25 (45, .aload_n 2, 1) rfl
theorem dX3_agreesWithTries_46 : decode cX3_agreesWithTries 46 = .ok (.getfield 50, 3) := tb_d tk_X3_agreesWithTries_1 26 (46, .getfield 50, 3) rfl
theorem dX3_agreesWithTries_49 : decode cX3_agreesWithTries 49 = .ok (.iload_n 3, 1) := tb_d tk_X3_agreesWithTries_1 27 (49, .iload_n 3, 1) rfl
theorem dX3_agreesWithTries_50 : decode cX3_agreesWithTries 50 = .ok (.iaload, 1) := tb_d tk_X3_agreesWithTries_1 28 (50, .iaload, 1) rfl
theorem dX3_agreesWithTries_51 : decode cX3_agreesWithTries 51 = .ok (.iload_n 1, 1) := tb_d tk_X3_agreesWithTries_1 29 (51, .iload_n 1, 1) rfl
theorem dX3_agreesWithTries_52 : decode cX3_agreesWithTries 52 = .ok (.aload_n 2, 1) := tb_d tk_X3_agreesWithTries_1 30 (52, .aload_n 2, 1) rfl
theorem dX3_agreesWithTries_53 : decode cX3_agreesWithTries 53 = .ok (.getfield 53, 3) := tb_d tk_X3_agreesWithTries_1 31 (53, .getfield 53, 3) rfl
theorem dX3_agreesWithTries_56 : decode cX3_agreesWithTries 56 = .ok (.invokevirtual 56, 3) := tb_d tk_X3_agreesWithTries_1 32 (56, .invokevirtual 56, 3) rfl
theorem dX3_agreesWithTries_59 : decode cX3_agreesWithTries 59 = .ok (.ifCond .eq 7, 3) := tb_d tk_X3_agreesWithTries_1 33 (59, .ifCond .eq 7, 3) rfl
theorem dX3_agreesWithTries_62 : decode cX3_agreesWithTries 62 = .ok (.iconst 1, 1) := tb_d tk_X3_agreesWithTries_1 34 (62, .iconst 1, 1) rfl
theorem dX3_agreesWithTries_63 : decode cX3_agreesWithTries 63 = .ok (.goto 4, 3) := tb_d tk_X3_agreesWithTries_1 35 (63, .goto 4, 3) rfl
theorem dX3_agreesWithTries_66 : decode cX3_agreesWithTries 66 = .ok (.iconst 0, 1) := tb_d tk_X3_agreesWithTries_1 36 (66, .iconst 0, 1) rfl
theorem dX3_agreesWithTries_67 : decode cX3_agreesWithTries 67 = .ok (.istore 5, 2) := tb_d tk_X3_agreesWithTries_1 37 (67, .istore 5, 2) rfl
theorem dX3_agreesWithTries_69 : decode cX3_agreesWithTries 69 = .ok (.iload 5, 2) := tb_d tk_X3_agreesWithTries_1 38 (69, .iload 5, 2) rfl
theorem dX3_agreesWithTries_71 : decode cX3_agreesWithTries 71 = .ok (.invokestatic 28, 3) := tb_d tk_X3_agreesWithTries_1 39 (71, .invokestatic 28, 3) rfl
def tb_X3_agreesWithTries_2 : List (Nat × Instr × Nat) := [(74, .aload_n 2, 1), (75, .getfield 60, 3), (78, .iload_n 3, 1), (79, .iaload, 1), (80, .if_icmp .eq 5, 3), (83, .iconst 0, 1), (84, .ireturn, 1), (85, .iinc 3 1, 3), (88, .goto (-81), 3), (91, .iconst 1, 1), (92, .ireturn, 1)]
set_option maxRecDepth 100000 in
theorem tk_X3_agreesWithTries_2 : (tb_X3_agreesWithTries_2.all fun q => decide (decode cX3_agreesWithTries q.1 = .ok q.2)) = true := by decide +kernel
theorem dX3_agreesWithTries_74 : decode cX3_agreesWithTries 74 = .ok (.aload_n 2, 1) := tb_d tk_X3_agreesWithTries_2 0 (74, .aload_n 2, 1) rfl
theorem dX3_agreesWithTries_75 : decode cX3_agreesWithTries 75 = .ok (.getfield 60, 3) := tb_d tk_X3_agreesWithTries_2 1 (75, .getfield 60, 3) rfl
theorem dX3_agreesWithTries_78 : decode cX3_agreesWithTries 78 = .ok (.iload_n 3, 1) := tb_d tk_X3_agreesWithTries_2 2 (78, .iload_n 3, 1) rfl
theorem dX3_agreesWithTries_79 : decode cX3_agreesWithTries 79 = .ok (.iaload, 1) := tb_d tk_X3_agreesWithTries_2 3 (79, .iaload, 1) rfl
theorem dX3_agreesWithTries_80 : decode cX3_agreesWithTries 80 = .ok (.if_icmp .eq 5, 3) := tb_d tk_X3_agreesWithTries_2 4 (80, .if_icmp .eq 5, 3) rfl
theorem dX3_agreesWithTries_83 : decode cX3_agreesWithTries 83 = .ok (.iconst 0, 1) := tb_d tk_X3_agreesWithTries_2 5 (83, .iconst 0, 1) rfl
theorem dX3_agreesWithTries_84 : decode cX3_agreesWithTries 84 = .ok (.ireturn, 1) := tb_d tk_X3_agreesWithTries_2 6 (84, .ireturn, 1) rfl
theorem dX3_agreesWithTries_85 : decode cX3_agreesWithTries 85 = .ok (.iinc 3 1, 3) := tb_d tk_X3_agreesWithTries_2 7 (85, .iinc 3 1, 3) rfl
theorem dX3_agreesWithTries_88 : decode cX3_agreesWithTries 88 = .ok (.goto (-81), 3) := tb_d tk_X3_agreesWithTries_2 8 (88, .goto (-81), 3) rfl
theorem dX3_agreesWithTries_91 : decode cX3_agreesWithTries 91 = .ok (.iconst 1, 1) := tb_d tk_X3_agreesWithTries_2 9 (91, .iconst 1, 1) rfl
theorem dX3_agreesWithTries_92 : decode cX3_agreesWithTries 92 = .ok (.ireturn, 1) := tb_d tk_X3_agreesWithTries_2 10 (92, .ireturn, 1) rfl
theorem ggX3_secretsCatching_X2_catchesIf : GoodIn wsX3_secretsCatching wsX2_catchesIf := fun w h => ⟨List.mem_cons_of_mem _ (List.mem_append_right _ (List.mem_append_right _ (List.mem_append_right _ (List.mem_append_right _ (List.mem_append_left _ h))))), good_of_word (gdX2_catchesIf w h)⟩
set_option maxRecDepth 20000 in
theorem gX3_secretsCatching_X2_catchesIf : GoodIn wsX3_secretsCatching (wsV RX3 63 RX2 yX2_catchesIf wsX2_catchesIf) := goodIn_app (a := bkV RX3 63 RX2 yX2_catchesIf) (fun w h => ⟨List.mem_cons_of_mem _ (List.mem_append_right _ (List.mem_append_left _ h)), good_of_word (gd_bV _ _ _ _ w h)⟩) ggX3_secretsCatching_X2_catchesIf
theorem ggX3_secretsCatching_X7_bit : GoodIn wsX3_secretsCatching wsX7_bit := fun w h => ⟨List.mem_cons_of_mem _ (List.mem_append_right _ (List.mem_append_right _ (List.mem_append_right _ (List.mem_append_right _ (List.mem_append_right _ (List.mem_append_left _ h)))))), good_of_word (gdX7_bit w h)⟩
set_option maxRecDepth 20000 in
theorem gX3_secretsCatching_X7_bit_n28 : GoodIn wsX3_secretsCatching (wsX7_bit) := ggX3_secretsCatching_X7_bit
def tb_X3_secretsCatching_1 : List (Nat × Instr × Nat) := [(0, .iconst 0, 1), (1, .istore_n 3, 1), (2, .iconst 0, 1), (3, .istore 4, 2), (5, .iload 4, 2), (7, .aload_n 0, 1), (8, .getfield 18, 3), (11, .if_icmp .ge 33, 3), (14, .iload_n 3, 1), (15, .aload_n 0, 1), (16, .iload 4, 2), (18, .iload_n 1, 1), (19, .iload_n 2, 1), (20, .aload_n 0, 1), (21, .getfield 32, 3), (24, .getfield 53, 3), (27, .invokevirtual 63, 3), (30, .invokestatic 28, 3), (33, .iload 4, 2), (35, .ishl, 1), (36, .ior, 1), (37, .istore_n 3, 1), (38, .iinc 4 1, 3), (41, .goto (-36), 3), (44, .iload_n 3, 1), (45, .ireturn, 1)]
set_option maxRecDepth 100000 in
theorem tk_X3_secretsCatching_1 : (tb_X3_secretsCatching_1.all fun q => decide (decode cX3_secretsCatching q.1 = .ok q.2)) = true := by decide +kernel
theorem dX3_secretsCatching_0 : decode cX3_secretsCatching 0 = .ok (.iconst 0, 1) := tb_d tk_X3_secretsCatching_1 0 (0, .iconst 0, 1) rfl
theorem dX3_secretsCatching_1 : decode cX3_secretsCatching 1 = .ok (.istore_n 3, 1) := tb_d tk_X3_secretsCatching_1 1 (1, .istore_n 3, 1) rfl
theorem dX3_secretsCatching_2 : decode cX3_secretsCatching 2 = .ok (.iconst 0, 1) := tb_d tk_X3_secretsCatching_1 2 (2, .iconst 0, 1) rfl
theorem dX3_secretsCatching_3 : decode cX3_secretsCatching 3 = .ok (.istore 4, 2) := tb_d tk_X3_secretsCatching_1 3 (3, .istore 4, 2) rfl
theorem dX3_secretsCatching_5 : decode cX3_secretsCatching 5 = .ok (.iload 4, 2) := tb_d tk_X3_secretsCatching_1 4 (5, .iload 4, 2) rfl
theorem dX3_secretsCatching_7 : decode cX3_secretsCatching 7 = .ok (.aload_n 0, 1) := tb_d tk_X3_secretsCatching_1 5 (7, .aload_n 0, 1) rfl
theorem dX3_secretsCatching_8 : decode cX3_secretsCatching 8 = .ok (.getfield 18, 3) := tb_d tk_X3_secretsCatching_1 6 (8, .getfield 18, 3) rfl
theorem dX3_secretsCatching_11 : decode cX3_secretsCatching 11 = .ok (.if_icmp .ge 33, 3) := tb_d tk_X3_secretsCatching_1 7 (11, .if_icmp .ge 33, 3) rfl
theorem dX3_secretsCatching_14 : decode cX3_secretsCatching 14 = .ok (.iload_n 3, 1) := tb_d tk_X3_secretsCatching_1 8 (14, .iload_n 3, 1) rfl
theorem dX3_secretsCatching_15 : decode cX3_secretsCatching 15 = .ok (.aload_n 0, 1) := tb_d tk_X3_secretsCatching_1 9 (15, .aload_n 0, 1) rfl
theorem dX3_secretsCatching_16 : decode cX3_secretsCatching 16 = .ok (.iload 4, 2) := tb_d tk_X3_secretsCatching_1 10 (16, .iload 4, 2) rfl
theorem dX3_secretsCatching_18 : decode cX3_secretsCatching 18 = .ok (.iload_n 1, 1) := tb_d tk_X3_secretsCatching_1 11 (18, .iload_n 1, 1) rfl
theorem dX3_secretsCatching_19 : decode cX3_secretsCatching 19 = .ok (.iload_n 2, 1) := tb_d tk_X3_secretsCatching_1 12 (19, .iload_n 2, 1) rfl
theorem dX3_secretsCatching_20 : decode cX3_secretsCatching 20 = .ok (.aload_n 0, 1) := tb_d tk_X3_secretsCatching_1 13 (20, .aload_n 0, 1) rfl
theorem dX3_secretsCatching_21 : decode cX3_secretsCatching 21 = .ok (.getfield 32, 3) := tb_d tk_X3_secretsCatching_1 14 (21, .getfield 32, 3) rfl
theorem dX3_secretsCatching_24 : decode cX3_secretsCatching 24 = .ok (.getfield 53, 3) := tb_d tk_X3_secretsCatching_1 15 (24, .getfield 53, 3) rfl
theorem dX3_secretsCatching_27 : decode cX3_secretsCatching 27 = .ok (.invokevirtual 63, 3) := tb_d tk_X3_secretsCatching_1 16 (27, .invokevirtual 63, 3) rfl
theorem dX3_secretsCatching_30 : decode cX3_secretsCatching 30 = .ok (.invokestatic 28, 3) := tb_d tk_X3_secretsCatching_1 17 (30, .invokestatic 28, 3) rfl
theorem dX3_secretsCatching_33 : decode cX3_secretsCatching 33 = .ok (.iload 4, 2) := tb_d tk_X3_secretsCatching_1 18 (33, .iload 4, 2) rfl
theorem dX3_secretsCatching_35 : decode cX3_secretsCatching 35 = .ok (.ishl, 1) := tb_d tk_X3_secretsCatching_1 19 (35, .ishl, 1) rfl
theorem dX3_secretsCatching_36 : decode cX3_secretsCatching 36 = .ok (.ior, 1) := tb_d tk_X3_secretsCatching_1 20 (36, .ior, 1) rfl
theorem dX3_secretsCatching_37 : decode cX3_secretsCatching 37 = .ok (.istore_n 3, 1) := tb_d tk_X3_secretsCatching_1 21 (37, .istore_n 3, 1) rfl
theorem dX3_secretsCatching_38 : decode cX3_secretsCatching 38 = .ok (.iinc 4 1, 3) := tb_d tk_X3_secretsCatching_1 22 (38, .iinc 4 1, 3) rfl
theorem dX3_secretsCatching_41 : decode cX3_secretsCatching 41 = .ok (.goto (-36), 3) := tb_d tk_X3_secretsCatching_1 23 (41, .goto (-36), 3) rfl
theorem dX3_secretsCatching_44 : decode cX3_secretsCatching 44 = .ok (.iload_n 3, 1) := tb_d tk_X3_secretsCatching_1 24 (44, .iload_n 3, 1) rfl
theorem dX3_secretsCatching_45 : decode cX3_secretsCatching 45 = .ok (.ireturn, 1) := tb_d tk_X3_secretsCatching_1 25 (45, .ireturn, 1) rfl
theorem ggX3_leftAtWorst_X3_secretsCatching : GoodIn wsX3_leftAtWorst wsX3_secretsCatching := fun w h => ⟨List.mem_cons_of_mem _ (List.mem_append_right _ (List.mem_append_right _ (List.mem_append_right _ (List.mem_append_right _ (List.mem_append_right _ (List.mem_append_left _ h)))))), good_of_word (gdX3_secretsCatching w h)⟩
set_option maxRecDepth 20000 in
theorem gX3_leftAtWorst_X3_secretsCatching : GoodIn wsX3_leftAtWorst (va_wsS RX3 66 yX3_secretsCatching wsX3_secretsCatching) := goodIn_app (a := bkS RX3 66 yX3_secretsCatching) (fun w h => ⟨List.mem_cons_of_mem _ (List.mem_append_right _ (List.mem_append_left _ h)), good_of_word (gd_bS _ _ _ w h)⟩) ggX3_leftAtWorst_X3_secretsCatching
theorem ggX3_leftAtWorst_J6_bitCount_0f7a4 : GoodIn wsX3_leftAtWorst wsJ6_bitCount_0f7a4 := fun w h => ⟨List.mem_cons_of_mem _ (List.mem_append_right _ (List.mem_append_right _ (List.mem_append_right _ (List.mem_append_right _ (List.mem_append_right _ (List.mem_append_right _ (List.mem_append_left _ h))))))), good_of_word (gdJ6_bitCount_0f7a4 w h)⟩
set_option maxRecDepth 20000 in
theorem gX3_leftAtWorst_J6_bitCount_0f7a4 : GoodIn wsX3_leftAtWorst (va_wsS RX3 70 yJ6_bitCount_0f7a4 wsJ6_bitCount_0f7a4) := goodIn_app (a := bkS RX3 70 yJ6_bitCount_0f7a4) (fun w h => ⟨List.mem_cons_of_mem _ (List.mem_append_right _ (List.mem_append_right _ (List.mem_append_left _ h))), good_of_word (gd_bS _ _ _ w h)⟩) ggX3_leftAtWorst_J6_bitCount_0f7a4
def tb_X3_leftAtWorst_1 : List (Nat × Instr × Nat) := [(0, .iload_n 2, 1), (1, .aload_n 0, 1), (2, .iload_n 1, 1), (3, .bipush 6, 2), (5, .idiv, 1), (6, .iload_n 1, 1), (7, .bipush 6, 2), (9, .irem, 1), (10, .invokestatic 66, 3), (13, .iand, 1), (14, .invokestatic 70, 3), (17, .istore_n 3, 1), (18, .iload_n 3, 1), (19, .iload_n 2, 1), (20, .invokestatic 70, 3), (23, .iload_n 3, 1), (24, .isub, 1), (25, .invokestatic 76, 3), (28, .ireturn, 1)]
set_option maxRecDepth 100000 in
theorem tk_X3_leftAtWorst_1 : (tb_X3_leftAtWorst_1.all fun q => decide (decode cX3_leftAtWorst q.1 = .ok q.2)) = true := by decide +kernel
theorem dX3_leftAtWorst_0 : decode cX3_leftAtWorst 0 = .ok (.iload_n 2, 1) := tb_d tk_X3_leftAtWorst_1 0 (0, .iload_n 2, 1) rfl
theorem dX3_leftAtWorst_1 : decode cX3_leftAtWorst 1 = .ok (.aload_n 0, 1) := tb_d tk_X3_leftAtWorst_1 1 (1, .aload_n 0, 1) rfl
theorem dX3_leftAtWorst_2 : decode cX3_leftAtWorst 2 = .ok (.iload_n 1, 1) := tb_d tk_X3_leftAtWorst_1 2 (2, .iload_n 1, 1) rfl
theorem dX3_leftAtWorst_3 : decode cX3_leftAtWorst 3 = .ok (.bipush 6, 2) := tb_d tk_X3_leftAtWorst_1 3 (3, .bipush 6, 2) rfl
theorem dX3_leftAtWorst_5 : decode cX3_leftAtWorst 5 = .ok (.idiv, 1) := tb_d tk_X3_leftAtWorst_1 4 (5, .idiv, 1) rfl
theorem dX3_leftAtWorst_6 : decode cX3_leftAtWorst 6 = .ok (.iload_n 1, 1) := tb_d tk_X3_leftAtWorst_1 5 (6, .iload_n 1, 1) rfl
theorem dX3_leftAtWorst_7 : decode cX3_leftAtWorst 7 = .ok (.bipush 6, 2) := tb_d tk_X3_leftAtWorst_1 6 (7, .bipush 6, 2) rfl
theorem dX3_leftAtWorst_9 : decode cX3_leftAtWorst 9 = .ok (.irem, 1) := tb_d tk_X3_leftAtWorst_1 7 (9, .irem, 1) rfl
theorem dX3_leftAtWorst_10 : decode cX3_leftAtWorst 10 = .ok (.invokestatic 66, 3) := tb_d tk_X3_leftAtWorst_1 8 (10, .invokestatic 66, 3) rfl
theorem dX3_leftAtWorst_13 : decode cX3_leftAtWorst 13 = .ok (.iand, 1) := tb_d tk_X3_leftAtWorst_1 9 (13, .iand, 1) rfl
theorem dX3_leftAtWorst_14 : decode cX3_leftAtWorst 14 = .ok (.invokestatic 70, 3) := tb_d tk_X3_leftAtWorst_1 10 (14, .invokestatic 70, 3) rfl
theorem dX3_leftAtWorst_17 : decode cX3_leftAtWorst 17 = .ok (.istore_n 3, 1) := tb_d tk_X3_leftAtWorst_1 11 (17, .istore_n 3, 1) rfl
theorem dX3_leftAtWorst_18 : decode cX3_leftAtWorst 18 = .ok (.iload_n 3, 1) := tb_d tk_X3_leftAtWorst_1 12 (18, .iload_n 3, 1) rfl
theorem dX3_leftAtWorst_19 : decode cX3_leftAtWorst 19 = .ok (.iload_n 2, 1) := tb_d tk_X3_leftAtWorst_1 13 (19, .iload_n 2, 1) rfl
theorem dX3_leftAtWorst_20 : decode cX3_leftAtWorst 20 = .ok (.invokestatic 70, 3) := tb_d tk_X3_leftAtWorst_1 14 (20, .invokestatic 70, 3) rfl
theorem dX3_leftAtWorst_23 : decode cX3_leftAtWorst 23 = .ok (.iload_n 3, 1) := tb_d tk_X3_leftAtWorst_1 15 (23, .iload_n 3, 1) rfl
theorem dX3_leftAtWorst_24 : decode cX3_leftAtWorst 24 = .ok (.isub, 1) := tb_d tk_X3_leftAtWorst_1 16 (24, .isub, 1) rfl
theorem dX3_leftAtWorst_25 : decode cX3_leftAtWorst 25 = .ok (.invokestatic 76, 3) := tb_d tk_X3_leftAtWorst_1 17 (25, .invokestatic 76, 3) rfl
theorem dX3_leftAtWorst_28 : decode cX3_leftAtWorst 28 = .ok (.ireturn, 1) := tb_d tk_X3_leftAtWorst_1 18 (28, .ireturn, 1) rfl
theorem ggX3_bestTry_X3_leftAtWorst : GoodIn wsX3_bestTry wsX3_leftAtWorst := fun w h => ⟨List.mem_cons_of_mem _ (List.mem_append_right _ (List.mem_append_right _ (List.mem_append_right _ (List.mem_append_right _ (List.mem_append_left _ h))))), good_of_word (gdX3_leftAtWorst w h)⟩
set_option maxRecDepth 20000 in
theorem gX3_bestTry_X3_leftAtWorst : GoodIn wsX3_bestTry (va_wsS RX3 82 yX3_leftAtWorst wsX3_leftAtWorst) := goodIn_app (a := bkS RX3 82 yX3_leftAtWorst) (fun w h => ⟨List.mem_cons_of_mem _ (List.mem_append_right _ (List.mem_append_left _ h)), good_of_word (gd_bS _ _ _ w h)⟩) ggX3_bestTry_X3_leftAtWorst
def tb_X3_bestTry_1 : List (Nat × Instr × Nat) := [(0, .iconst 0, 1), (1, .istore_n 2, 1), (2, .aload_n 0, 1), (3, .iconst 0, 1), (4, .iload_n 1, 1), (5, .invokestatic 82, 3), (8, .istore_n 3, 1), (9, .iconst 1, 1), (10, .istore 4, 2), (12, .iload 4, 2), (14, .aload_n 0, 1), (15, .getfield 18, 3), (18, .bipush 6, 2), (20, .imul, 1), (21, .if_icmp .ge 30, 3), (24, .aload_n 0, 1), (25, .iload 4, 2), (27, .iload_n 1, 1), (28, .invokestatic 82, 3), (31, .istore 5, 2), (33, .iload 5, 2), (35, .iload_n 3, 1), (36, .if_icmp .ge 9, 3), (39, .iload 4, 2), (41, .istore_n 2, 1), (42, .iload 5, 2), (44, .istore_n 3, 1), (45, .iinc 4 1, 3), (48, .goto (-36), 3), (51, .iload_n 2, 1), (52, .ireturn, 1)]
set_option maxRecDepth 100000 in
theorem tk_X3_bestTry_1 : (tb_X3_bestTry_1.all fun q => decide (decode cX3_bestTry q.1 = .ok q.2)) = true := by decide +kernel
theorem dX3_bestTry_0 : decode cX3_bestTry 0 = .ok (.iconst 0, 1) := tb_d tk_X3_bestTry_1 0 (0, .iconst 0, 1) rfl
theorem dX3_bestTry_1 : decode cX3_bestTry 1 = .ok (.istore_n 2, 1) := tb_d tk_X3_bestTry_1 1 (1, .istore_n 2, 1) rfl
theorem dX3_bestTry_2 : decode cX3_bestTry 2 = .ok (.aload_n 0, 1) := tb_d tk_X3_bestTry_1 2 (2, .aload_n 0, 1) rfl
theorem dX3_bestTry_3 : decode cX3_bestTry 3 = .ok (.iconst 0, 1) := tb_d tk_X3_bestTry_1 3 (3, .iconst 0, 1) rfl
theorem dX3_bestTry_4 : decode cX3_bestTry 4 = .ok (.iload_n 1, 1) := tb_d tk_X3_bestTry_1 4 (4, .iload_n 1, 1) rfl
theorem dX3_bestTry_5 : decode cX3_bestTry 5 = .ok (.invokestatic 82, 3) := tb_d tk_X3_bestTry_1 5 (5, .invokestatic 82, 3) rfl
theorem dX3_bestTry_8 : decode cX3_bestTry 8 = .ok (.istore_n 3, 1) := tb_d tk_X3_bestTry_1 6 (8, .istore_n 3, 1) rfl
theorem dX3_bestTry_9 : decode cX3_bestTry 9 = .ok (.iconst 1, 1) := tb_d tk_X3_bestTry_1 7 (9, .iconst 1, 1) rfl
theorem dX3_bestTry_10 : decode cX3_bestTry 10 = .ok (.istore 4, 2) := tb_d tk_X3_bestTry_1 8 (10, .istore 4, 2) rfl
theorem dX3_bestTry_12 : decode cX3_bestTry 12 = .ok (.iload 4, 2) := tb_d tk_X3_bestTry_1 9 (12, .iload 4, 2) rfl
theorem dX3_bestTry_14 : decode cX3_bestTry 14 = .ok (.aload_n 0, 1) := tb_d tk_X3_bestTry_1 10 (14, .aload_n 0, 1) rfl
theorem dX3_bestTry_15 : decode cX3_bestTry 15 = .ok (.getfield 18, 3) := tb_d tk_X3_bestTry_1 11 (15, .getfield 18, 3) rfl
theorem dX3_bestTry_18 : decode cX3_bestTry 18 = .ok (.bipush 6, 2) := tb_d tk_X3_bestTry_1 12 (18, .bipush 6, 2) rfl
theorem dX3_bestTry_20 : decode cX3_bestTry 20 = .ok (.imul, 1) := tb_d tk_X3_bestTry_1 13 (20, .imul, 1) rfl
theorem dX3_bestTry_21 : decode cX3_bestTry 21 = .ok (.if_icmp .ge 30, 3) := tb_d tk_X3_bestTry_1 14 (21, .if_icmp .ge 30, 3) rfl
theorem dX3_bestTry_24 : decode cX3_bestTry 24 = .ok (.aload_n 0, 1) := tb_d tk_X3_bestTry_1 15 (24, .aload_n 0, 1) rfl
theorem dX3_bestTry_25 : decode cX3_bestTry 25 = .ok (.iload 4, 2) := tb_d tk_X3_bestTry_1 16 (25, .iload 4, 2) rfl
theorem dX3_bestTry_27 : decode cX3_bestTry 27 = .ok (.iload_n 1, 1) := tb_d tk_X3_bestTry_1 17 (27, .iload_n 1, 1) rfl
theorem dX3_bestTry_28 : decode cX3_bestTry 28 = .ok (.invokestatic 82, 3) := tb_d tk_X3_bestTry_1 18 (28, .invokestatic 82, 3) rfl
theorem dX3_bestTry_31 : decode cX3_bestTry 31 = .ok (.istore 5, 2) := tb_d tk_X3_bestTry_1 19 (31, .istore 5, 2) rfl
theorem dX3_bestTry_33 : decode cX3_bestTry 33 = .ok (.iload 5, 2) := tb_d tk_X3_bestTry_1 20 (33, .iload 5, 2) rfl
theorem dX3_bestTry_35 : decode cX3_bestTry 35 = .ok (.iload_n 3, 1) := tb_d tk_X3_bestTry_1 21 (35, .iload_n 3, 1) rfl
theorem dX3_bestTry_36 : decode cX3_bestTry 36 = .ok (.if_icmp .ge 9, 3) := tb_d tk_X3_bestTry_1 22 (36, .if_icmp .ge 9, 3) rfl
theorem dX3_bestTry_39 : decode cX3_bestTry 39 = .ok (.iload 4, 2) := tb_d tk_X3_bestTry_1 23 (39, .iload 4, 2) rfl
theorem dX3_bestTry_41 : decode cX3_bestTry 41 = .ok (.istore_n 2, 1) := tb_d tk_X3_bestTry_1 24 (41, .istore_n 2, 1) rfl
theorem dX3_bestTry_42 : decode cX3_bestTry 42 = .ok (.iload 5, 2) := tb_d tk_X3_bestTry_1 25 (42, .iload 5, 2) rfl
theorem dX3_bestTry_44 : decode cX3_bestTry 44 = .ok (.istore_n 3, 1) := tb_d tk_X3_bestTry_1 26 (44, .istore_n 3, 1) rfl
theorem dX3_bestTry_45 : decode cX3_bestTry 45 = .ok (.iinc 4 1, 3) := tb_d tk_X3_bestTry_1 27 (45, .iinc 4 1, 3) rfl
theorem dX3_bestTry_48 : decode cX3_bestTry 48 = .ok (.goto (-36), 3) := tb_d tk_X3_bestTry_1 28 (48, .goto (-36), 3) rfl
theorem dX3_bestTry_51 : decode cX3_bestTry 51 = .ok (.iload_n 2, 1) := tb_d tk_X3_bestTry_1 29 (51, .iload_n 2, 1) rfl
theorem dX3_bestTry_52 : decode cX3_bestTry 52 = .ok (.ireturn, 1) := tb_d tk_X3_bestTry_1 30 (52, .ireturn, 1) rfl
theorem ggX3_fewestMen_X3_secretsCatching : GoodIn wsX3_fewestMen wsX3_secretsCatching := fun w h => ⟨List.mem_cons_of_mem _ (List.mem_append_right _ (List.mem_append_right _ (List.mem_append_right _ (List.mem_append_right _ (List.mem_append_right _ (List.mem_append_right _ (List.mem_append_right _ (List.mem_append_left _ h)))))))), good_of_word (gdX3_secretsCatching w h)⟩
set_option maxRecDepth 20000 in
theorem gX3_fewestMen_X3_secretsCatching : GoodIn wsX3_fewestMen (va_wsS RX3 66 yX3_secretsCatching wsX3_secretsCatching) := goodIn_app (a := bkS RX3 66 yX3_secretsCatching) (fun w h => ⟨List.mem_cons_of_mem _ (List.mem_append_right _ (List.mem_append_left _ h)), good_of_word (gd_bS _ _ _ w h)⟩) ggX3_fewestMen_X3_secretsCatching
theorem ggX3_fewestMen_J6_bitCount_0f7a4 : GoodIn wsX3_fewestMen wsJ6_bitCount_0f7a4 := fun w h => ⟨List.mem_cons_of_mem _ (List.mem_append_right _ (List.mem_append_right _ (List.mem_append_right _ (List.mem_append_right _ (List.mem_append_right _ (List.mem_append_right _ (List.mem_append_right _ (List.mem_append_right _ (List.mem_append_left _ h))))))))), good_of_word (gdJ6_bitCount_0f7a4 w h)⟩
set_option maxRecDepth 20000 in
theorem gX3_fewestMen_J6_bitCount_0f7a4 : GoodIn wsX3_fewestMen (va_wsS RX3 70 yJ6_bitCount_0f7a4 wsJ6_bitCount_0f7a4) := goodIn_app (a := bkS RX3 70 yJ6_bitCount_0f7a4) (fun w h => ⟨List.mem_cons_of_mem _ (List.mem_append_right _ (List.mem_append_right _ (List.mem_append_left _ h))), good_of_word (gd_bS _ _ _ w h)⟩) ggX3_fewestMen_J6_bitCount_0f7a4
theorem ggX3_fewestMen_X3_menToSplit : GoodIn wsX3_fewestMen wsX3_menToSplit := fun w h => ⟨List.mem_cons_of_mem _ (List.mem_append_right _ (List.mem_append_right _ (List.mem_append_right _ (List.mem_append_right _ (List.mem_append_right _ (List.mem_append_right _ (List.mem_append_right _ (List.mem_append_right _ (List.mem_append_right _ (List.mem_append_left _ h)))))))))), good_of_word (gdX3_menToSplit w h)⟩
set_option maxRecDepth 20000 in
theorem gX3_fewestMen_X3_menToSplit : GoodIn wsX3_fewestMen (wsV RX3 85 RX3 yX3_menToSplit wsX3_menToSplit) := goodIn_app (a := bkV RX3 85 RX3 yX3_menToSplit) (fun w h => ⟨List.mem_cons_of_mem _ (List.mem_append_right _ (List.mem_append_right _ (List.mem_append_right _ (List.mem_append_left _ h)))), good_of_word (gd_bV _ _ _ _ w h)⟩) ggX3_fewestMen_X3_menToSplit
def tb_X3_fewestMen_1 : List (Nat × Instr × Nat) := [(0, .aload_n 1, 1), (1, .getfield 18, 3), (4, .bipush 6, 2), (6, .imul, 1), (7, .istore_n 3, 1), (8, .iconst 0, 1), (9, .istore 4, 2), (11, .iload 4, 2), (13, .iload_n 3, 1), (14, .if_icmp .ge 30, 3), (17, .aload_n 0, 1), (18, .getfield 9, 3), (21, .iload 4, 2), (23, .aload_n 1, 1), (24, .iload 4, 2), (26, .bipush 6, 2), (28, .idiv, 1), (29, .iload 4, 2), (31, .bipush 6, 2), (33, .irem, 1), (34, .invokestatic 66, 3), (37, .iastore, 1), (38, .iinc 4 1, 3), (41, .goto (-30), 3), (44, .iconst 0, 1), (45, .istore 4, 2), (47, .iload 4, 2), (49, .iconst 1, 1), (50, .aload_n 1, 1), (51, .getfield 18, 3), (54, .ishl, 1), (55, .if_icmp .ge 36, 3), (58, .aload_n 0, 1), (59, .getfield 15, 3), (62, .iload 4, 2), (64, .iload 4, 2), (66, .invokestatic 70, 3), (69, .iconst 1, 1), (70, .if_icmp .gt 7, 3), (73, .iconst 0, 1)]
set_option maxRecDepth 100000 in
theorem tk_X3_fewestMen_1 : (tb_X3_fewestMen_1.all fun q => decide (decode cX3_fewestMen q.1 = .ok q.2)) = true := by decide +kernel
theorem dX3_fewestMen_0 : decode cX3_fewestMen 0 = .ok (.aload_n 1, 1) := tb_d tk_X3_fewestMen_1 0 (0, .aload_n 1, 1) rfl
theorem dX3_fewestMen_1 : decode cX3_fewestMen 1 = .ok (.getfield 18, 3) := tb_d tk_X3_fewestMen_1 1 (1, .getfield 18, 3) rfl
theorem dX3_fewestMen_4 : decode cX3_fewestMen 4 = .ok (.bipush 6, 2) := tb_d tk_X3_fewestMen_1 2 (4, .bipush 6, 2) rfl
theorem dX3_fewestMen_6 : decode cX3_fewestMen 6 = .ok (.imul, 1) := tb_d tk_X3_fewestMen_1 3 (6, .imul, 1) rfl
theorem dX3_fewestMen_7 : decode cX3_fewestMen 7 = .ok (.istore_n 3, 1) := tb_d tk_X3_fewestMen_1 4 (7, .istore_n 3, 1) rfl
theorem dX3_fewestMen_8 : decode cX3_fewestMen 8 = .ok (.iconst 0, 1) := tb_d tk_X3_fewestMen_1 5 (8, .iconst 0, 1) rfl
theorem dX3_fewestMen_9 : decode cX3_fewestMen 9 = .ok (.istore 4, 2) := tb_d tk_X3_fewestMen_1 6 (9, .istore 4, 2) rfl
theorem dX3_fewestMen_11 : decode cX3_fewestMen 11 = .ok (.iload 4, 2) := tb_d tk_X3_fewestMen_1 7 (11, .iload 4, 2) rfl
theorem dX3_fewestMen_13 : decode cX3_fewestMen 13 = .ok (.iload_n 3, 1) := tb_d tk_X3_fewestMen_1 8 (13, .iload_n 3, 1) rfl
theorem dX3_fewestMen_14 : decode cX3_fewestMen 14 = .ok (.if_icmp .ge 30, 3) := tb_d tk_X3_fewestMen_1 9 (14, .if_icmp .ge 30, 3) rfl
theorem dX3_fewestMen_17 : decode cX3_fewestMen 17 = .ok (.aload_n 0, 1) := tb_d tk_X3_fewestMen_1 10 (17, .aload_n 0, 1) rfl
theorem dX3_fewestMen_18 : decode cX3_fewestMen 18 = .ok (.getfield 9, 3) := tb_d tk_X3_fewestMen_1 11 (18, .getfield 9, 3) rfl
theorem dX3_fewestMen_21 : decode cX3_fewestMen 21 = .ok (.iload 4, 2) := tb_d tk_X3_fewestMen_1 12 (21, .iload 4, 2) rfl
theorem dX3_fewestMen_23 : decode cX3_fewestMen 23 = .ok (.aload_n 1, 1) := tb_d tk_X3_fewestMen_1 13 (23, .aload_n 1, 1) rfl
theorem dX3_fewestMen_24 : decode cX3_fewestMen 24 = .ok (.iload 4, 2) := tb_d tk_X3_fewestMen_1 14 (24, .iload 4, 2) rfl
theorem dX3_fewestMen_26 : decode cX3_fewestMen 26 = .ok (.bipush 6, 2) := tb_d tk_X3_fewestMen_1 15 (26, .bipush 6, 2) rfl
theorem dX3_fewestMen_28 : decode cX3_fewestMen 28 = .ok (.idiv, 1) := tb_d tk_X3_fewestMen_1 16 (28, .idiv, 1) rfl
theorem dX3_fewestMen_29 : decode cX3_fewestMen 29 = .ok (.iload 4, 2) := tb_d tk_X3_fewestMen_1 17 (29, .iload 4, 2) rfl
theorem dX3_fewestMen_31 : decode cX3_fewestMen 31 = .ok (.bipush 6, 2) := tb_d tk_X3_fewestMen_1 18 (31, .bipush 6, 2) rfl
theorem dX3_fewestMen_33 : decode cX3_fewestMen 33 = .ok (.irem, 1) := tb_d tk_X3_fewestMen_1 19 (33, .irem, 1) rfl
theorem dX3_fewestMen_34 : decode cX3_fewestMen 34 = .ok (.invokestatic 66, 3) := tb_d tk_X3_fewestMen_1 20 (34, .invokestatic 66, 3) rfl
theorem dX3_fewestMen_37 : decode cX3_fewestMen 37 = .ok (.iastore, 1) := tb_d tk_X3_fewestMen_1 21 (37, .iastore, 1) rfl
theorem dX3_fewestMen_38 : decode cX3_fewestMen 38 = .ok (.iinc 4 1, 3) := tb_d tk_X3_fewestMen_1 22 (38, .iinc 4 1, 3) rfl
theorem dX3_fewestMen_41 : decode cX3_fewestMen 41 = .ok (.goto (-30), 3) := tb_d tk_X3_fewestMen_1 23 (41, .goto (-30), 3) rfl
theorem dX3_fewestMen_44 : decode cX3_fewestMen 44 = .ok (.iconst 0, 1) := tb_d tk_X3_fewestMen_1 24 (44, .iconst 0, 1) rfl
theorem dX3_fewestMen_45 : decode cX3_fewestMen 45 = .ok (.istore 4, 2) := tb_d tk_X3_fewestMen_1 25 (45, .istore 4, 2) rfl
theorem dX3_fewestMen_47 : decode cX3_fewestMen 47 = .ok (.iload 4, 2) := tb_d tk_X3_fewestMen_1 26 (47, .iload 4, 2) rfl
theorem dX3_fewestMen_49 : decode cX3_fewestMen 49 = .ok (.iconst 1, 1) := tb_d tk_X3_fewestMen_1 27 (49, .iconst 1, 1) rfl
theorem dX3_fewestMen_50 : decode cX3_fewestMen 50 = .ok (.aload_n 1, 1) := tb_d tk_X3_fewestMen_1 28 (50, .aload_n 1, 1) rfl
theorem dX3_fewestMen_51 : decode cX3_fewestMen 51 = .ok (.getfield 18, 3) := tb_d tk_X3_fewestMen_1 29 (51, .getfield 18, 3) rfl
theorem dX3_fewestMen_54 : decode cX3_fewestMen 54 = .ok (.ishl, 1) := tb_d tk_X3_fewestMen_1 30 (54, .ishl, 1) rfl
theorem dX3_fewestMen_55 : decode cX3_fewestMen 55 = .ok (.if_icmp .ge 36, 3) := tb_d tk_X3_fewestMen_1 31 (55, .if_icmp .ge 36, 3) rfl
theorem dX3_fewestMen_58 : decode cX3_fewestMen 58 = .ok (.aload_n 0, 1) := tb_d tk_X3_fewestMen_1 32 (58, .aload_n 0, 1) rfl
theorem dX3_fewestMen_59 : decode cX3_fewestMen 59 = .ok (.getfield 15, 3) := tb_d tk_X3_fewestMen_1 33 (59, .getfield 15, 3) rfl
theorem dX3_fewestMen_62 : decode cX3_fewestMen 62 = .ok (.iload 4, 2) := tb_d tk_X3_fewestMen_1 34 (62, .iload 4, 2) rfl
theorem dX3_fewestMen_64 : decode cX3_fewestMen 64 = .ok (.iload 4, 2) := tb_d tk_X3_fewestMen_1 35 (64, .iload 4, 2) rfl
theorem dX3_fewestMen_66 : decode cX3_fewestMen 66 = .ok (.invokestatic 70, 3) := tb_d tk_X3_fewestMen_1 36 (66, .invokestatic 70, 3) rfl
theorem dX3_fewestMen_69 : decode cX3_fewestMen 69 = .ok (.iconst 1, 1) := tb_d tk_X3_fewestMen_1 37 (69, .iconst 1, 1) rfl
theorem dX3_fewestMen_70 : decode cX3_fewestMen 70 = .ok (.if_icmp .gt 7, 3) := tb_d tk_X3_fewestMen_1 38 (70, .if_icmp .gt 7, 3) rfl
theorem dX3_fewestMen_73 : decode cX3_fewestMen 73 = .ok (.iconst 0, 1) := tb_d tk_X3_fewestMen_1 39 (73, .iconst 0, 1) rfl
def tb_X3_fewestMen_2 : List (Nat × Instr × Nat) := [(74, .goto 10, 3), (77, .aload_n 0, 1), (78, .iload 4, 2), (80, .iload_n 3, 1), (81, .invokevirtual 85, 3), (84, .iastore, 1), (85, .iinc 4 1, 3), (88, .goto (-41), 3), (91, .aload_n 0, 1), (92, .getfield 15, 3), (95, .iload_n 2, 1), (96, .iaload, 1), (97, .sipush 1000, 3), (100, .if_icmp .ge 12, 3), (103, .aload_n 0, 1), (104, .getfield 15, 3), (107, .iload_n 2, 1), (108, .iaload, 1), (109, .goto 5, 3), (112, .ldc 88, 2), (114, .ireturn, 1)]
set_option maxRecDepth 100000 in
theorem tk_X3_fewestMen_2 : (tb_X3_fewestMen_2.all fun q => decide (decode cX3_fewestMen q.1 = .ok q.2)) = true := by decide +kernel
theorem dX3_fewestMen_74 : decode cX3_fewestMen 74 = .ok (.goto 10, 3) := tb_d tk_X3_fewestMen_2 0 (74, .goto 10, 3) rfl
theorem dX3_fewestMen_77 : decode cX3_fewestMen 77 = .ok (.aload_n 0, 1) := tb_d tk_X3_fewestMen_2 1 (77, .aload_n 0, 1) rfl
theorem dX3_fewestMen_78 : decode cX3_fewestMen 78 = .ok (.iload 4, 2) := tb_d tk_X3_fewestMen_2 2 (78, .iload 4, 2) rfl
theorem dX3_fewestMen_80 : decode cX3_fewestMen 80 = .ok (.iload_n 3, 1) := tb_d tk_X3_fewestMen_2 3 (80, .iload_n 3, 1) rfl
theorem dX3_fewestMen_81 : decode cX3_fewestMen 81 = .ok (.invokevirtual 85, 3) := tb_d tk_X3_fewestMen_2 4 (81, .invokevirtual 85, 3) rfl
theorem dX3_fewestMen_84 : decode cX3_fewestMen 84 = .ok (.iastore, 1) := tb_d tk_X3_fewestMen_2 5 (84, .iastore, 1) rfl
theorem dX3_fewestMen_85 : decode cX3_fewestMen 85 = .ok (.iinc 4 1, 3) := tb_d tk_X3_fewestMen_2 6 (85, .iinc 4 1, 3) rfl
theorem dX3_fewestMen_88 : decode cX3_fewestMen 88 = .ok (.goto (-41), 3) := tb_d tk_X3_fewestMen_2 7 (88, .goto (-41), 3) rfl
theorem dX3_fewestMen_91 : decode cX3_fewestMen 91 = .ok (.aload_n 0, 1) := tb_d tk_X3_fewestMen_2 8 (91, .aload_n 0, 1) rfl
theorem dX3_fewestMen_92 : decode cX3_fewestMen 92 = .ok (.getfield 15, 3) := tb_d tk_X3_fewestMen_2 9 (92, .getfield 15, 3) rfl
theorem dX3_fewestMen_95 : decode cX3_fewestMen 95 = .ok (.iload_n 2, 1) := tb_d tk_X3_fewestMen_2 10 (95, .iload_n 2, 1) rfl
theorem dX3_fewestMen_96 : decode cX3_fewestMen 96 = .ok (.iaload, 1) := tb_d tk_X3_fewestMen_2 11 (96, .iaload, 1) rfl
theorem dX3_fewestMen_97 : decode cX3_fewestMen 97 = .ok (.sipush 1000, 3) := tb_d tk_X3_fewestMen_2 12 (97, .sipush 1000, 3) rfl
theorem dX3_fewestMen_100 : decode cX3_fewestMen 100 = .ok (.if_icmp .ge 12, 3) := tb_d tk_X3_fewestMen_2 13 (100, .if_icmp .ge 12, 3) rfl
theorem dX3_fewestMen_103 : decode cX3_fewestMen 103 = .ok (.aload_n 0, 1) := tb_d tk_X3_fewestMen_2 14 (103, .aload_n 0, 1) rfl
theorem dX3_fewestMen_104 : decode cX3_fewestMen 104 = .ok (.getfield 15, 3) := tb_d tk_X3_fewestMen_2 15 (104, .getfield 15, 3) rfl
theorem dX3_fewestMen_107 : decode cX3_fewestMen 107 = .ok (.iload_n 2, 1) := tb_d tk_X3_fewestMen_2 16 (107, .iload_n 2, 1) rfl
theorem dX3_fewestMen_108 : decode cX3_fewestMen 108 = .ok (.iaload, 1) := tb_d tk_X3_fewestMen_2 17 (108, .iaload, 1) rfl
theorem dX3_fewestMen_109 : decode cX3_fewestMen 109 = .ok (.goto 5, 3) := tb_d tk_X3_fewestMen_2 18 (109, .goto 5, 3) rfl
theorem dX3_fewestMen_112 : decode cX3_fewestMen 112 = .ok (.ldc 88, 2) := tb_d tk_X3_fewestMen_2 19 (112, .ldc 88, 2) rfl
theorem dX3_fewestMen_114 : decode cX3_fewestMen 114 = .ok (.ireturn, 1) := tb_d tk_X3_fewestMen_2 20 (114, .ireturn, 1) rfl
def tb_X3_menToSplit_1 : List (Nat × Instr × Nat) := [(0, .sipush 1000, 3), (3, .istore_n 3, 1), (4, .iconst 0, 1), (5, .istore 4, 2), (7, .iload 4, 2), (9, .iload_n 2, 1), (10, .if_icmp .ge 57, 3), (13, .iload_n 1, 1), (14, .aload_n 0, 1), (15, .getfield 9, 3), (18, .iload 4, 2), (20, .iaload, 1), (21, .iand, 1), (22, .istore 5, 2), (24, .iload 5, 2), (26, .ifCond .eq 35, 3), (29, .iload 5, 2), (31, .iload_n 1, 1), (32, .if_icmp .eq 29, 3), (35, .iload_n 3, 1), (36, .iconst 1, 1), (37, .aload_n 0, 1), (38, .getfield 15, 3), (41, .iload 5, 2), (43, .iaload, 1), (44, .aload_n 0, 1), (45, .getfield 15, 3), (48, .iload_n 1, 1), (49, .iload 5, 2), (51, .ixor, 1), (52, .iaload, 1), (53, .invokestatic 76, 3), (56, .iadd, 1), (57, .invokestatic 89, 3), (60, .istore_n 3, 1), (61, .iinc 4 1, 3), (64, .goto (-57), 3), (67, .iload_n 3, 1), (68, .ireturn, 1)]
set_option maxRecDepth 100000 in
theorem tk_X3_menToSplit_1 : (tb_X3_menToSplit_1.all fun q => decide (decode cX3_menToSplit q.1 = .ok q.2)) = true := by decide +kernel
theorem dX3_menToSplit_0 : decode cX3_menToSplit 0 = .ok (.sipush 1000, 3) := tb_d tk_X3_menToSplit_1 0 (0, .sipush 1000, 3) rfl
theorem dX3_menToSplit_3 : decode cX3_menToSplit 3 = .ok (.istore_n 3, 1) := tb_d tk_X3_menToSplit_1 1 (3, .istore_n 3, 1) rfl
theorem dX3_menToSplit_4 : decode cX3_menToSplit 4 = .ok (.iconst 0, 1) := tb_d tk_X3_menToSplit_1 2 (4, .iconst 0, 1) rfl
theorem dX3_menToSplit_5 : decode cX3_menToSplit 5 = .ok (.istore 4, 2) := tb_d tk_X3_menToSplit_1 3 (5, .istore 4, 2) rfl
theorem dX3_menToSplit_7 : decode cX3_menToSplit 7 = .ok (.iload 4, 2) := tb_d tk_X3_menToSplit_1 4 (7, .iload 4, 2) rfl
theorem dX3_menToSplit_9 : decode cX3_menToSplit 9 = .ok (.iload_n 2, 1) := tb_d tk_X3_menToSplit_1 5 (9, .iload_n 2, 1) rfl
theorem dX3_menToSplit_10 : decode cX3_menToSplit 10 = .ok (.if_icmp .ge 57, 3) := tb_d tk_X3_menToSplit_1 6 (10, .if_icmp .ge 57, 3) rfl
theorem dX3_menToSplit_13 : decode cX3_menToSplit 13 = .ok (.iload_n 1, 1) := tb_d tk_X3_menToSplit_1 7 (13, .iload_n 1, 1) rfl
theorem dX3_menToSplit_14 : decode cX3_menToSplit 14 = .ok (.aload_n 0, 1) := tb_d tk_X3_menToSplit_1 8 (14, .aload_n 0, 1) rfl
theorem dX3_menToSplit_15 : decode cX3_menToSplit 15 = .ok (.getfield 9, 3) := tb_d tk_X3_menToSplit_1 9 (15, .getfield 9, 3) rfl
theorem dX3_menToSplit_18 : decode cX3_menToSplit 18 = .ok (.iload 4, 2) := tb_d tk_X3_menToSplit_1 10 (18, .iload 4, 2) rfl
theorem dX3_menToSplit_20 : decode cX3_menToSplit 20 = .ok (.iaload, 1) := tb_d tk_X3_menToSplit_1 11 (20, .iaload, 1) rfl
theorem dX3_menToSplit_21 : decode cX3_menToSplit 21 = .ok (.iand, 1) := tb_d tk_X3_menToSplit_1 12 (21, .iand, 1) rfl
theorem dX3_menToSplit_22 : decode cX3_menToSplit 22 = .ok (.istore 5, 2) := tb_d tk_X3_menToSplit_1 13 (22, .istore 5, 2) rfl
theorem dX3_menToSplit_24 : decode cX3_menToSplit 24 = .ok (.iload 5, 2) := tb_d tk_X3_menToSplit_1 14 (24, .iload 5, 2) rfl
theorem dX3_menToSplit_26 : decode cX3_menToSplit 26 = .ok (.ifCond .eq 35, 3) := tb_d tk_X3_menToSplit_1 15 (26, .ifCond .eq 35, 3) rfl
theorem dX3_menToSplit_29 : decode cX3_menToSplit 29 = .ok (.iload 5, 2) := tb_d tk_X3_menToSplit_1 16 (29, .iload 5, 2) rfl
theorem dX3_menToSplit_31 : decode cX3_menToSplit 31 = .ok (.iload_n 1, 1) := tb_d tk_X3_menToSplit_1 17 (31, .iload_n 1, 1) rfl
theorem dX3_menToSplit_32 : decode cX3_menToSplit 32 = .ok (.if_icmp .eq 29, 3) := tb_d tk_X3_menToSplit_1 18 (32, .if_icmp .eq 29, 3) rfl
theorem dX3_menToSplit_35 : decode cX3_menToSplit 35 = .ok (.iload_n 3, 1) := tb_d tk_X3_menToSplit_1 19 (35, .iload_n 3, 1) rfl
theorem dX3_menToSplit_36 : decode cX3_menToSplit 36 = .ok (.iconst 1, 1) := tb_d tk_X3_menToSplit_1 20 (36, .iconst 1, 1) rfl
theorem dX3_menToSplit_37 : decode cX3_menToSplit 37 = .ok (.aload_n 0, 1) := tb_d tk_X3_menToSplit_1 21 (37, .aload_n 0, 1) rfl
theorem dX3_menToSplit_38 : decode cX3_menToSplit 38 = .ok (.getfield 15, 3) := tb_d tk_X3_menToSplit_1 22 (38, .getfield 15, 3) rfl
theorem dX3_menToSplit_41 : decode cX3_menToSplit 41 = .ok (.iload 5, 2) := tb_d tk_X3_menToSplit_1 23 (41, .iload 5, 2) rfl
theorem dX3_menToSplit_43 : decode cX3_menToSplit 43 = .ok (.iaload, 1) := tb_d tk_X3_menToSplit_1 24 (43, .iaload, 1) rfl
theorem dX3_menToSplit_44 : decode cX3_menToSplit 44 = .ok (.aload_n 0, 1) := tb_d tk_X3_menToSplit_1 25 (44, .aload_n 0, 1) rfl
theorem dX3_menToSplit_45 : decode cX3_menToSplit 45 = .ok (.getfield 15, 3) := tb_d tk_X3_menToSplit_1 26 (45, .getfield 15, 3) rfl
theorem dX3_menToSplit_48 : decode cX3_menToSplit 48 = .ok (.iload_n 1, 1) := tb_d tk_X3_menToSplit_1 27 (48, .iload_n 1, 1) rfl
theorem dX3_menToSplit_49 : decode cX3_menToSplit 49 = .ok (.iload 5, 2) := tb_d tk_X3_menToSplit_1 28 (49, .iload 5, 2) rfl
theorem dX3_menToSplit_51 : decode cX3_menToSplit 51 = .ok (.ixor, 1) := tb_d tk_X3_menToSplit_1 29 (51, .ixor, 1) rfl
theorem dX3_menToSplit_52 : decode cX3_menToSplit 52 = .ok (.iaload, 1) := tb_d tk_X3_menToSplit_1 30 (52, .iaload, 1) rfl
theorem dX3_menToSplit_53 : decode cX3_menToSplit 53 = .ok (.invokestatic 76, 3) := tb_d tk_X3_menToSplit_1 31 (53, .invokestatic 76, 3) rfl
theorem dX3_menToSplit_56 : decode cX3_menToSplit 56 = .ok (.iadd, 1) := tb_d tk_X3_menToSplit_1 32 (56, .iadd, 1) rfl
theorem dX3_menToSplit_57 : decode cX3_menToSplit 57 = .ok (.invokestatic 89, 3) := tb_d tk_X3_menToSplit_1 33 (57, .invokestatic 89, 3) rfl
theorem dX3_menToSplit_60 : decode cX3_menToSplit 60 = .ok (.istore_n 3, 1) := tb_d tk_X3_menToSplit_1 34 (60, .istore_n 3, 1) rfl
theorem dX3_menToSplit_61 : decode cX3_menToSplit 61 = .ok (.iinc 4 1, 3) := tb_d tk_X3_menToSplit_1 35 (61, .iinc 4 1, 3) rfl
theorem dX3_menToSplit_64 : decode cX3_menToSplit 64 = .ok (.goto (-57), 3) := tb_d tk_X3_menToSplit_1 36 (64, .goto (-57), 3) rfl
theorem dX3_menToSplit_67 : decode cX3_menToSplit 67 = .ok (.iload_n 3, 1) := tb_d tk_X3_menToSplit_1 37 (67, .iload_n 3, 1) rfl
theorem dX3_menToSplit_68 : decode cX3_menToSplit 68 = .ok (.ireturn, 1) := tb_d tk_X3_menToSplit_1 38 (68, .ireturn, 1) rfl
def tb_X4_init_1 : List (Nat × Instr × Nat) := [(0, .aload_n 0, 1), (1, .invokespecial 3, 3), (4, .aload_n 0, 1), (5, .iconst 4, 1), (6, .newarray .int, 2), (8, .putfield 9, 3), (11, .aload_n 0, 1), (12, .bipush 9, 2), (14, .newarray .int, 2), (16, .putfield 15, 3), (19, .aload_n 0, 1), (20, .bipush 9, 2), (22, .newarray .int, 2), (24, .putfield 18, 3), (27, .aload_n 0, 1), (28, .bipush 9, 2), (30, .newarray .int, 2), (32, .putfield 21, 3), (35, .return_, 1)]
set_option maxRecDepth 100000 in
theorem tk_X4_init_1 : (tb_X4_init_1.all fun q => decide (decode cX4_init q.1 = .ok q.2)) = true := by decide +kernel
theorem dX4_init_0 : decode cX4_init 0 = .ok (.aload_n 0, 1) := tb_d tk_X4_init_1 0 (0, .aload_n 0, 1) rfl
theorem dX4_init_1 : decode cX4_init 1 = .ok (.invokespecial 3, 3) := tb_d tk_X4_init_1 1 (1, .invokespecial 3, 3) rfl
theorem dX4_init_4 : decode cX4_init 4 = .ok (.aload_n 0, 1) := tb_d tk_X4_init_1 2 (4, .aload_n 0, 1) rfl
theorem dX4_init_5 : decode cX4_init 5 = .ok (.iconst 4, 1) := tb_d tk_X4_init_1 3 (5, .iconst 4, 1) rfl
theorem dX4_init_6 : decode cX4_init 6 = .ok (.newarray .int, 2) := tb_d tk_X4_init_1 4 (6, .newarray .int, 2) rfl
theorem dX4_init_8 : decode cX4_init 8 = .ok (.putfield 9, 3) := tb_d tk_X4_init_1 5 (8, .putfield 9, 3) rfl
theorem dX4_init_11 : decode cX4_init 11 = .ok (.aload_n 0, 1) := tb_d tk_X4_init_1 6 (11, .aload_n 0, 1) rfl
theorem dX4_init_12 : decode cX4_init 12 = .ok (.bipush 9, 2) := tb_d tk_X4_init_1 7 (12, .bipush 9, 2) rfl
theorem dX4_init_14 : decode cX4_init 14 = .ok (.newarray .int, 2) := tb_d tk_X4_init_1 8 (14, .newarray .int, 2) rfl
theorem dX4_init_16 : decode cX4_init 16 = .ok (.putfield 15, 3) := tb_d tk_X4_init_1 9 (16, .putfield 15, 3) rfl
theorem dX4_init_19 : decode cX4_init 19 = .ok (.aload_n 0, 1) := tb_d tk_X4_init_1 10 (19, .aload_n 0, 1) rfl
theorem dX4_init_20 : decode cX4_init 20 = .ok (.bipush 9, 2) := tb_d tk_X4_init_1 11 (20, .bipush 9, 2) rfl
theorem dX4_init_22 : decode cX4_init 22 = .ok (.newarray .int, 2) := tb_d tk_X4_init_1 12 (22, .newarray .int, 2) rfl
theorem dX4_init_24 : decode cX4_init 24 = .ok (.putfield 18, 3) := tb_d tk_X4_init_1 13 (24, .putfield 18, 3) rfl
theorem dX4_init_27 : decode cX4_init 27 = .ok (.aload_n 0, 1) := tb_d tk_X4_init_1 14 (27, .aload_n 0, 1) rfl
theorem dX4_init_28 : decode cX4_init 28 = .ok (.bipush 9, 2) := tb_d tk_X4_init_1 15 (28, .bipush 9, 2) rfl
