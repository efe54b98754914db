def wsL_law_r1 : List Cond := [Cond.classLink RL 7 RX7, Cond.instantiable RX7 9, Cond.initialized RX7, Cond.classLink RL 10 RX8, Cond.instantiable RX8 23, Cond.initialized RX8, Cond.methodLink RL 9 yX7_init, Cond.instanceMethod yX7_init, Cond.code yX7_init cX7_init 2 none, Cond.methodLink RX7 1 objectInit, Cond.instanceMethod objectInit, Cond.code objectInit ⟨#[0xb1]⟩ 1 none, Cond.classLink RX7 9 RX5, Cond.fieldLink RX7 11 "WrongWord" "rows" "[LWrongWord$Row;", Cond.classLink RX7 15 RX6, Cond.instantiable RX6 7, Cond.initialized RX6, Cond.fieldLink RX7 18 "WrongWord" "tape" "LWrongWord$Tape;", Cond.classLink RX7 22 RX2, Cond.instantiable RX2 8, Cond.initialized RX2, Cond.fieldLink RX7 25 "WrongWord" "gate" "LWrongWord$Gate;", Cond.classLink RX7 29 RX0, Cond.instantiable RX0 3]
def wsL_law_r2 : List Cond := [Cond.initialized RX0, Cond.fieldLink RX7 32 "WrongWord" "acts" "LWrongWord$Acts;", Cond.fieldLink RX7 36 "WrongWord" "images" "[LWrongWord$Gate;", Cond.classLink RX7 40 RX3, Cond.instantiable RX3 2, Cond.initialized RX3, Cond.fieldLink RX7 43 "WrongWord" "guesses" "LWrongWord$Guesses;", Cond.classLink RX7 47 RX1, Cond.instantiable RX1 6, Cond.initialized RX1, Cond.fieldLink RX7 50 "WrongWord" "asks" "LWrongWord$Asks;", Cond.instantiable RX5 3, Cond.initialized RX5, Cond.instanceMethod yX6_init, Cond.code yX6_init cX6_init 1 none, Cond.methodLink RX6 3 objectInit, Cond.arrayClass .int, Cond.fieldLink RX6 9 "WrongWord$Tape" "bytes" "[I", Cond.classLink RX6 15 RX2, Cond.fieldLink RX6 18 "WrongWord$Tape" "draft" "LWrongWord$Gate;", Cond.instanceMethod yX2_init, Cond.code yX2_init cX2_init 1 none, Cond.methodLink RX2 3 objectInit, Cond.fieldLink RX2 9 "WrongWord$Gate" "letters" "[I"]
def wsL_law_r3 : List Cond := [Cond.fieldLink RX2 15 "WrongWord$Gate" "kinds" "[I", Cond.fieldLink RX2 18 "WrongWord$Gate" "fees" "[I", Cond.classLink RX2 21 RX4, Cond.instantiable RX4 8, Cond.initialized RX4, Cond.fieldLink RX2 24 "WrongWord$Gate" "now" "LWrongWord$Moment;", Cond.instanceMethod yX4_init, Cond.code yX4_init cX4_init 1 none, Cond.methodLink RX4 3 objectInit, Cond.fieldLink RX4 9 "WrongWord$Moment" "took" "[I", Cond.fieldLink RX4 15 "WrongWord$Moment" "triedWord" "[I", Cond.fieldLink RX4 18 "WrongWord$Moment" "triedGuard" "[I", Cond.fieldLink RX4 21 "WrongWord$Moment" "triedTaken" "[I", Cond.methodLink RX7 31 yX0_init, Cond.instanceMethod yX0_init, Cond.code yX0_init cX0_init 2 none, Cond.methodLink RX0 3 objectInit, Cond.classLink RX0 9 RX4, Cond.fieldLink RX0 11 "WrongWord$Acts" "ahead" "[LWrongWord$Moment;", Cond.instanceMethod yX3_init, Cond.code yX3_init cX3_init 1 none, Cond.methodLink RX3 3 objectInit, Cond.fieldLink RX3 9 "WrongWord$Guesses" "catching" "[I", Cond.fieldLink RX3 15 "WrongWord$Guesses" "menFor" "[I"]
def wsL_law_r4 : List Cond := [Cond.instanceMethod yX1_init, Cond.code yX1_init cX1_init 1 none, Cond.methodLink RX1 3 objectInit, Cond.fieldLink RX1 11 "WrongWord$Asks" "bodies" "[I", Cond.instanceMethod yX5_init, Cond.code yX5_init cX5_init 1 none, Cond.methodLink RX5 3 objectInit, Cond.fieldLink RX5 9 "WrongWord$Row" "items" "[I", Cond.fieldLink RX5 15 "WrongWord$Row" "lane" "I", Cond.methodLink RL 12 yX8_init, Cond.instanceMethod yX8_init, Cond.code yX8_init cX8_init 2 none, Cond.methodLink RX8 1 objectInit, Cond.fieldLink RX8 7 "WrongWordModel" "lane" "[I", Cond.fieldLink RX8 13 "WrongWordModel" "many" "[I", Cond.fieldLink RX8 16 "WrongWordModel" "items" "[I", Cond.fieldLink RX8 19 "WrongWordModel" "spare" "[I", Cond.fieldLink RX8 22 "WrongWordModel" "tape" "[I", Cond.fieldLink RX8 25 "WrongWordModel" "now" "[I", Cond.fieldLink RX8 28 "WrongWordModel" "draft" "[I", Cond.fieldLink RX8 31 "WrongWordModel" "tried" "[I", Cond.fieldLink RX8 34 "WrongWordModel" "past" "[I", Cond.fieldLink RX8 37 "WrongWordModel" "images" "[I", Cond.arrayClass .boolean]
def wsL_law_r5 : List Cond := [Cond.fieldLink RX8 40 "WrongWordModel" "kept" "[Z", Cond.fieldLink RX8 44 "WrongWordModel" "men" "[I", Cond.fieldLink RX8 47 "WrongWordModel" "trace" "[I", Cond.constant RX8 50 (-1000000), Cond.methodLink RL 13 yX7_row, Cond.instanceMethod yX7_row, Cond.selects RX7 yX7_row yX7_row, Cond.code yX7_row cX7_row 4 (some .int), Cond.constant RX7 59 (-1000001), Cond.methodLink RX7 55 yX7_isRow, Cond.instanceMethod yX7_isRow, Cond.selects RX7 yX7_isRow yX7_isRow, Cond.code yX7_isRow cX7_isRow 2 (some .boolean), Cond.methodLink RX7 60 yX7_found, Cond.instanceMethod yX7_found, Cond.selects RX7 yX7_found yX7_found, Cond.code yX7_found cX7_found 2 (some .int), Cond.fieldLink RX7 333 "WrongWord" "latestFinding" "I", Cond.constant RX7 336 (-1000010), Cond.methodLink RX7 64 yX5_make, Cond.instanceMethod yX5_make, Cond.selects RX5 yX5_make yX5_make, Cond.code yX5_make cX5_make 4 none, Cond.fieldLink RX5 19 "WrongWord$Row" "size" "I"]
def wsL_law_r6 : List Cond := [Cond.methodLink RX7 68 yX7_unfound, Cond.instanceMethod yX7_unfound, Cond.selects RX7 yX7_unfound yX7_unfound, Cond.code yX7_unfound cX7_unfound 2 (some .int), Cond.methodLink RL 17 yX8_row, Cond.instanceMethod yX8_row, Cond.selects RX8 yX8_row yX8_row, Cond.code yX8_row cX8_row 5 (some .int), Cond.constant RX8 64 (-1000001), Cond.methodLink RX8 60 yX8_isRow, Cond.static yX8_isRow, Cond.code yX8_isRow cX8_isRow 1 (some .boolean), Cond.methodLink RX8 56 yX8_in, Cond.static yX8_in, Cond.code yX8_in cX8_in 3 (some .boolean), Cond.methodLink RX8 65 yX8_found, Cond.instanceMethod yX8_found, Cond.selects RX8 yX8_found yX8_found, Cond.code yX8_found cX8_found 2 (some .int), Cond.fieldLink RX8 51 "WrongWordModel" "status" "I", Cond.constant RX8 55 (-1000010), Cond.methodLink RX8 69 yX8_well, Cond.instanceMethod yX8_well, Cond.selects RX8 yX8_well yX8_well]
def wsL_law_r7 : List Cond := [Cond.code yX8_well cX8_well 2 (some .int), Cond.methodLink RL 18 yX7_set, Cond.instanceMethod yX7_set, Cond.selects RX7 yX7_set yX7_set, Cond.code yX7_set cX7_set 5 (some .int), Cond.methodLink RX7 71 yX5_findingOf, Cond.instanceMethod yX5_findingOf, Cond.selects RX5 yX5_findingOf yX5_findingOf, Cond.code yX5_findingOf cX5_findingOf 3 (some .int), Cond.methodLink RX5 22 yX5_reaches, Cond.instanceMethod yX5_reaches, Cond.selects RX5 yX5_reaches yX5_reaches, Cond.code yX5_reaches cX5_reaches 3 (some .boolean), Cond.methodLink RX7 75 yX5_put, Cond.instanceMethod yX5_put, Cond.selects RX5 yX5_put yX5_put, Cond.code yX5_put cX5_put 3 (some .int), Cond.methodLink RL 21 yX8_set, Cond.instanceMethod yX8_set, Cond.selects RX8 yX8_set yX8_set, Cond.code yX8_set cX8_set 4 (some .int), Cond.methodLink RX8 72 yX8_isMissing, Cond.instanceMethod yX8_isMissing, Cond.selects RX8 yX8_isMissing yX8_isMissing]
def wsL_law_r8 : List Cond := [Cond.code yX8_isMissing cX8_isMissing 2 (some .boolean), Cond.methodLink RX8 75 yX8_cut, Cond.static yX8_cut, Cond.code yX8_cut cX8_cut 2 (some .int), Cond.methodLink RL 22 yX7_copy, Cond.instanceMethod yX7_copy, Cond.selects RX7 yX7_copy yX7_copy, Cond.code yX7_copy cX7_copy 8 (some .int), Cond.fieldLink RX7 78 "WrongWord$Row" "lane" "I", Cond.fieldLink RX7 86 "WrongWord$Row" "items" "[I", Cond.methodLink RX7 90 arraycopyName, Cond.native arraycopyName, Cond.static arraycopyName, Cond.initialized "java/lang/System", Cond.methodLink RX7 82 yX5_reaches, Cond.methodLink RL 26 yX8_copy, Cond.instanceMethod yX8_copy, Cond.selects RX8 yX8_copy yX8_copy, Cond.code yX8_copy cX8_copy 7 (some .int), Cond.methodLink RX8 79 yX8_isPart, Cond.instanceMethod yX8_isPart, Cond.selects RX8 yX8_isPart yX8_isPart, Cond.code yX8_isPart cX8_isPart 4 (some .boolean), Cond.methodLink RL 27 yX7_drop]
def wsL_law_r9 : List Cond := [Cond.instanceMethod yX7_drop, Cond.selects RX7 yX7_drop yX7_drop, Cond.code yX7_drop cX7_drop 2 (some .int), Cond.fieldLink RX7 96 "WrongWord$Row" "size" "I", Cond.methodLink RL 31 yX8_drop, Cond.instanceMethod yX8_drop, Cond.selects RX8 yX8_drop yX8_drop, Cond.code yX8_drop cX8_drop 2 (some .int), Cond.methodLink RL 32 yX7_feed, Cond.instanceMethod yX7_feed, Cond.selects RX7 yX7_feed yX7_feed, Cond.code yX7_feed cX7_feed 2 (some .int), Cond.fieldLink RX7 102 "WrongWord$Tape" "length" "I", Cond.constant RX7 105 (-1000003), Cond.methodLink RX7 99 yX6_append, Cond.instanceMethod yX6_append, Cond.selects RX6 yX6_append yX6_append, Cond.code yX6_append cX6_append 2 (some .boolean), Cond.fieldLink RX6 22 "WrongWord$Tape" "length" "I", Cond.methodLink RL 35 yX8_feed, Cond.instanceMethod yX8_feed, Cond.selects RX8 yX8_feed yX8_feed, Cond.code yX8_feed cX8_feed 2 (some .int), Cond.fieldLink RX8 82 "WrongWordModel" "taped" "I"]
def wsL_law_r10 : List Cond := [Cond.constant RX8 85 (-1000003), Cond.methodLink RL 36 yX7_gate, Cond.instanceMethod yX7_gate, Cond.selects RX7 yX7_gate yX7_gate, Cond.code yX7_gate cX7_gate 2 (some .int), Cond.fieldLink RX7 110 "WrongWord$Tape" "fault" "I", Cond.fieldLink RX7 113 "WrongWord" "latestFault" "I", Cond.constant RX7 116 (-1000100), Cond.fieldLink RX7 117 "WrongWord$Tape" "place" "I", Cond.fieldLink RX7 120 "WrongWord$Tape" "draft" "LWrongWord$Gate;", Cond.fieldLink RX7 130 "WrongWord$Gate" "words" "I", Cond.methodLink RX7 106 yX6_read, Cond.instanceMethod yX6_read, Cond.selects RX6 yX6_read yX6_read, Cond.code yX6_read cX6_read 2 (some .boolean), Cond.fieldLink RX6 26 "WrongWord$Tape" "at" "I", Cond.fieldLink RX6 29 "WrongWord$Gate" "words" "I", Cond.fieldLink RX6 32 "WrongWord$Gate" "guards" "I", Cond.fieldLink RX6 49 "WrongWord$Gate" "now" "LWrongWord$Moment;", Cond.methodLink RX6 35 yX6_readLaw, Cond.instanceMethod yX6_readLaw, Cond.selects RX6 yX6_readLaw yX6_readLaw, Cond.code yX6_readLaw cX6_readLaw 1 (some .boolean), Cond.fieldLink RX6 66 "WrongWord$Tape" "value" "I"]
def wsL_law_r11 : List Cond := [Cond.fieldLink RX6 69 "WrongWord$Moment" "start" "I", Cond.fieldLink RX6 72 "WrongWord$Gate" "step" "I", Cond.fieldLink RX6 75 "WrongWord$Gate" "shrove" "I", Cond.methodLink RX6 59 yX6_readSign, Cond.instanceMethod yX6_readSign, Cond.selects RX6 yX6_readSign yX6_readSign, Cond.code yX6_readSign cX6_readSign 2 (some .boolean), Cond.methodLink RX6 42 yX6_here, Cond.instanceMethod yX6_here, Cond.selects RX6 yX6_here yX6_here, Cond.code yX6_here cX6_here 1 (some .int), Cond.methodLink RX6 78 yX6_faulty, Cond.instanceMethod yX6_faulty, Cond.selects RX6 yX6_faulty yX6_faulty, Cond.code yX6_faulty cX6_faulty 2 (some .boolean), Cond.fieldLink RX6 105 "WrongWord$Tape" "fault" "I", Cond.fieldLink RX6 108 "WrongWord$Tape" "place" "I", Cond.methodLink RX6 63 yX6_readNumber, Cond.instanceMethod yX6_readNumber, Cond.selects RX6 yX6_readNumber yX6_readNumber, Cond.code yX6_readNumber cX6_readNumber 4 (some .boolean), Cond.methodLink RX6 102 yX6_isFigure, Cond.static yX6_isFigure, Cond.code yX6_isFigure cX6_isFigure 1 (some .boolean)]
def wsL_law_r12 : List Cond := [Cond.methodLink RX6 39 yX6_readWord, Cond.instanceMethod yX6_readWord, Cond.selects RX6 yX6_readWord yX6_readWord, Cond.code yX6_readWord cX6_readWord 3 (some .boolean), Cond.fieldLink RX6 81 "WrongWord$Gate" "letters" "[I", Cond.methodLink RX6 84 yX6_wasTold, Cond.instanceMethod yX6_wasTold, Cond.selects RX6 yX6_wasTold yX6_wasTold, Cond.code yX6_wasTold cX6_wasTold 3 (some .boolean), Cond.methodLink RX6 87 yX2_distance, Cond.instanceMethod yX2_distance, Cond.selects RX2 yX2_distance yX2_distance, Cond.code yX2_distance cX2_distance 5 (some .int), Cond.methodLink RX6 46 yX6_readGuard, Cond.instanceMethod yX6_readGuard, Cond.selects RX6 yX6_readGuard yX6_readGuard, Cond.code yX6_readGuard cX6_readGuard 2 (some .boolean), Cond.constant RX6 95 (-1000000), Cond.fieldLink RX6 96 "WrongWord$Gate" "kinds" "[I", Cond.fieldLink RX6 99 "WrongWord$Gate" "fees" "[I", Cond.methodLink RX6 91 yX6_kindOf, Cond.static yX6_kindOf, Cond.code yX6_kindOf cX6_kindOf 1 (some .int), Cond.methodLink RX6 53 yX4_begin]
def wsL_law_r13 : List Cond := [Cond.instanceMethod yX4_begin, Cond.selects RX4 yX4_begin yX4_begin, Cond.code yX4_begin cX4_begin 3 none, Cond.fieldLink RX4 24 "WrongWord$Moment" "night" "I", Cond.fieldLink RX4 28 "WrongWord$Moment" "there" "I", Cond.fieldLink RX4 31 "WrongWord$Moment" "tries" "I", Cond.methodLink RX7 123 yX2_become, Cond.instanceMethod yX2_become, Cond.selects RX2 yX2_become yX2_become, Cond.code yX2_become cX2_become 2 none, Cond.methodLink RX2 28 arraycopyName, Cond.fieldLink RX2 38 "WrongWord$Gate" "step" "I", Cond.fieldLink RX2 42 "WrongWord$Gate" "shrove" "I", Cond.fieldLink RX2 45 "WrongWord$Gate" "words" "I", Cond.fieldLink RX2 48 "WrongWord$Gate" "guards" "I", Cond.methodLink RX2 34 yX4_become, Cond.instanceMethod yX4_become, Cond.selects RX4 yX4_become yX4_become, Cond.code yX4_become cX4_become 2 none, Cond.fieldLink RX4 34 "WrongWord$Moment" "start" "I", Cond.methodLink RX4 37 arraycopyName, Cond.methodLink RX7 127 yX0_forget, Cond.instanceMethod yX0_forget, Cond.selects RX0 yX0_forget yX0_forget]
def wsL_law_r14 : List Cond := [Cond.code yX0_forget cX0_forget 1 none, Cond.fieldLink RX0 18 "WrongWord$Acts" "kept" "I", Cond.methodLink RL 40 yX8_gate, Cond.instanceMethod yX8_gate, Cond.selects RX8 yX8_gate yX8_gate, Cond.code yX8_gate cX8_gate 2 (some .int), Cond.fieldLink RX8 86 "WrongWordModel" "at" "I", Cond.fieldLink RX8 101 "WrongWordModel" "faultPlace" "I", Cond.fieldLink RX8 98 "WrongWordModel" "token" "I", Cond.fieldLink RX8 95 "WrongWordModel" "value" "I", Cond.constant RX8 144 (-1000100), Cond.fieldLink RX8 149 "WrongWordModel" "acts" "I", Cond.methodLink RX8 111 yX8_advances, Cond.instanceMethod yX8_advances, Cond.selects RX8 yX8_advances yX8_advances, Cond.code yX8_advances cX8_advances 2 none, Cond.fieldLink RX8 89 "WrongWordModel" "start" "I", Cond.methodLink RX8 92 yX8_byteAt, Cond.instanceMethod yX8_byteAt, Cond.selects RX8 yX8_byteAt yX8_byteAt, Cond.code yX8_byteAt cX8_byteAt 2 (some .int), Cond.methodLink RX8 114 yX8_takes, Cond.instanceMethod yX8_takes, Cond.selects RX8 yX8_takes yX8_takes]
def wsL_law_r15 : List Cond := [Cond.code yX8_takes cX8_takes 4 (some .int), Cond.fieldLink RX8 108 "WrongWordModel" "faultKind" "I", Cond.methodLink RX8 104 yX8_isWell, Cond.instanceMethod yX8_isWell, Cond.selects RX8 yX8_isWell yX8_isWell, Cond.code yX8_isWell cX8_isWell 1 (some .boolean), Cond.methodLink RX8 118 yX8_figure, Cond.instanceMethod yX8_figure, Cond.selects RX8 yX8_figure yX8_figure, Cond.code yX8_figure cX8_figure 3 (some .int), Cond.methodLink RX8 131 yX8_follows, Cond.instanceMethod yX8_follows, Cond.selects RX8 yX8_follows yX8_follows, Cond.code yX8_follows cX8_follows 3 (some .int), Cond.methodLink RX8 134 yX8_must, Cond.instanceMethod yX8_must, Cond.selects RX8 yX8_must yX8_must, Cond.code yX8_must cX8_must 2 none, Cond.methodLink RX8 138 yX8_readsWord, Cond.instanceMethod yX8_readsWord, Cond.selects RX8 yX8_readsWord yX8_readsWord, Cond.code yX8_readsWord cX8_readsWord 5 none, Cond.methodLink RX8 121 yX8_letterOf, Cond.instanceMethod yX8_letterOf]
def wsL_law_r16 : List Cond := [Cond.selects RX8 yX8_letterOf yX8_letterOf, Cond.code yX8_letterOf cX8_letterOf 1 (some .int), Cond.methodLink RX8 125 yX8_isTold, Cond.instanceMethod yX8_isTold, Cond.selects RX8 yX8_isTold yX8_isTold, Cond.code yX8_isTold cX8_isTold 7 (some .boolean), Cond.methodLink RX8 128 yX8_kindOf, Cond.static yX8_kindOf, Cond.code yX8_kindOf cX8_kindOf 1 (some .int), Cond.methodLink RX8 141 yX8_readsGuard, Cond.instanceMethod yX8_readsGuard, Cond.selects RX8 yX8_readsGuard yX8_readsGuard, Cond.code yX8_readsGuard cX8_readsGuard 4 none, Cond.methodLink RX8 145 yX8_copies, Cond.static yX8_copies, Cond.code yX8_copies cX8_copies 5 none, Cond.methodLink RL 41 yX7_fault, Cond.instanceMethod yX7_fault, Cond.selects RX7 yX7_fault yX7_fault, Cond.code yX7_fault cX7_fault 1 (some .int), Cond.methodLink RL 44 yX8_fault, Cond.instanceMethod yX8_fault, Cond.selects RX8 yX8_fault yX8_fault, Cond.code yX8_fault cX8_fault 1 (some .int)]
def wsL_law_r17 : List Cond := [Cond.methodLink RL 45 yX7_nights, Cond.instanceMethod yX7_nights, Cond.selects RX7 yX7_nights yX7_nights, Cond.code yX7_nights cX7_nights 3 (some .int), Cond.constant RX7 136 (-1000002), Cond.fieldLink RX7 137 "WrongWord$Gate" "now" "LWrongWord$Moment;", Cond.fieldLink RX7 141 "WrongWord$Moment" "night" "I", Cond.methodLink RX7 133 yX7_noGate, Cond.instanceMethod yX7_noGate, Cond.selects RX7 yX7_noGate yX7_noGate, Cond.code yX7_noGate cX7_noGate 1 (some .boolean), Cond.methodLink RX7 146 yX0_keep, Cond.instanceMethod yX0_keep, Cond.selects RX0 yX0_keep yX0_keep, Cond.code yX0_keep cX0_keep 2 none, Cond.fieldLink RX0 22 "WrongWord$Acts" "at" "I", Cond.methodLink RX0 29 Lib.Math.min.name, Cond.static Lib.Math.min.name, Cond.initialized "java/lang/Math", Cond.code Lib.Math.min.name Lib.Math.min.code 2 (some .int), Cond.methodLink RX0 25 yX4_become, Cond.methodLink RX7 150 yX4_goBy, Cond.instanceMethod yX4_goBy, Cond.selects RX4 yX4_goBy yX4_goBy]
def wsL_law_r18 : List Cond := [Cond.code yX4_goBy cX4_goBy 1 none, Cond.methodLink RX7 153 yX2_secretIn, Cond.instanceMethod yX2_secretIn, Cond.selects RX2 yX2_secretIn yX2_secretIn, Cond.code yX2_secretIn cX2_secretIn 2 (some .int), Cond.fieldLink RX2 55 "WrongWord$Moment" "start" "I", Cond.fieldLink RX2 58 "WrongWord$Moment" "night" "I", Cond.methodLink RX2 61 yX2_secretBy, Cond.instanceMethod yX2_secretBy, Cond.selects RX2 yX2_secretBy yX2_secretBy, Cond.code yX2_secretBy cX2_secretBy 5 (some .int), Cond.static yX7_rest, Cond.code yX7_rest cX7_rest 2 (some .int), Cond.methodLink RL 48 yX8_nights, Cond.instanceMethod yX8_nights, Cond.selects RX8 yX8_nights yX8_nights, Cond.code yX8_nights cX8_nights 3 (some .int), Cond.constant RX8 183 (-1000002), Cond.methodLink RX8 180 yX8_isGate, Cond.instanceMethod yX8_isGate, Cond.selects RX8 yX8_isGate yX8_isGate, Cond.code yX8_isGate cX8_isGate 1 (some .boolean), Cond.methodLink RX8 184 yX8_notes, Cond.instanceMethod yX8_notes]
def wsL_law_r19 : List Cond := [Cond.selects RX8 yX8_notes yX8_notes, Cond.code yX8_notes cX8_notes 2 none, Cond.methodLink RX8 187 yX8_forgets, Cond.instanceMethod yX8_forgets, Cond.selects RX8 yX8_forgets yX8_forgets, Cond.code yX8_forgets cX8_forgets 2 none, Cond.methodLink RX8 172 yX8_secretOf, Cond.static yX8_secretOf, Cond.code yX8_secretOf cX8_secretOf 2 (some .int), Cond.methodLink RL 49 yX7_say, Cond.instanceMethod yX7_say, Cond.selects RX7 yX7_say yX7_say, Cond.code yX7_say cX7_say 5 (some .int), Cond.fieldLink RX7 162 "WrongWord$Moment" "tries" "I", Cond.constant RX7 175 (-1000000), Cond.methodLink RX7 156 yX7_isWord, Cond.instanceMethod yX7_isWord, Cond.selects RX7 yX7_isWord yX7_isWord, Cond.code yX7_isWord cX7_isWord 2 (some .boolean), Cond.methodLink RX7 159 yX7_isHour, Cond.instanceMethod yX7_isHour, Cond.selects RX7 yX7_isHour yX7_isHour, Cond.code yX7_isHour cX7_isHour 2 (some .boolean), Cond.methodLink RX7 165 yX2_guardOn]
def wsL_law_r20 : List Cond := [Cond.instanceMethod yX2_guardOn, Cond.selects RX2 yX2_guardOn yX2_guardOn, Cond.code yX2_guardOn cX2_guardOn 3 (some .int), Cond.methodLink RX7 168 yX2_catches, Cond.instanceMethod yX2_catches, Cond.selects RX2 yX2_catches yX2_catches, Cond.code yX2_catches cX2_catches 4 (some .boolean), Cond.methodLink RX2 85 yX2_secretIn, Cond.methodLink RX2 89 yX2_catchesIf, Cond.instanceMethod yX2_catchesIf, Cond.selects RX2 yX2_catchesIf yX2_catchesIf, Cond.code yX2_catchesIf cX2_catchesIf 6 (some .boolean), Cond.methodLink RX2 74 yX2_guardOn, Cond.methodLink RX2 77 yX2_isThere, Cond.instanceMethod yX2_isThere, Cond.selects RX2 yX2_isThere yX2_isThere, Cond.code yX2_isThere cX2_isThere 2 (some .boolean), Cond.fieldLink RX2 65 "WrongWord$Moment" "there" "I", Cond.methodLink RX2 81 yX2_wouldTake, Cond.instanceMethod yX2_wouldTake, Cond.selects RX2 yX2_wouldTake yX2_wouldTake, Cond.code yX2_wouldTake cX2_wouldTake 5 (some .boolean), Cond.methodLink RX2 68 yX2_distance, Cond.methodLink RX2 71 yX2_lips]
def wsL_law_r21 : List Cond := [Cond.instanceMethod yX2_lips, Cond.selects RX2 yX2_lips yX2_lips, Cond.code yX2_lips cX2_lips 5 (some .int), Cond.methodLink RX7 172 yX2_isThere, Cond.methodLink RX7 176 yX4_addTry, Cond.instanceMethod yX4_addTry, Cond.selects RX4 yX4_addTry yX4_addTry, Cond.code yX4_addTry cX4_addTry 4 none, Cond.static yX7_bit, Cond.code yX7_bit cX7_bit 1 (some .int), Cond.methodLink RX7 180 yX7_bit, Cond.methodLink RL 53 yX8_say, Cond.instanceMethod yX8_say, Cond.selects RX8 yX8_say yX8_say, Cond.code yX8_say cX8_say 6 (some .int), Cond.methodLink RX8 190 yX8_isWord, Cond.instanceMethod yX8_isWord, Cond.selects RX8 yX8_isWord yX8_isWord, Cond.code yX8_isWord cX8_isWord 2 (some .boolean), Cond.methodLink RX8 193 yX8_isHour, Cond.static yX8_isHour, Cond.code yX8_isHour cX8_isHour 1 (some .boolean), Cond.methodLink RX8 158 yX8_guardOn, Cond.instanceMethod yX8_guardOn]
def wsL_law_r22 : List Cond := [Cond.selects RX8 yX8_guardOn yX8_guardOn, Cond.code yX8_guardOn cX8_guardOn 3 (some .int), Cond.methodLink RX8 196 yX8_isTakenNow, Cond.instanceMethod yX8_isTakenNow, Cond.selects RX8 yX8_isTakenNow yX8_isTakenNow, Cond.code yX8_isTakenNow cX8_isTakenNow 5 (some .boolean), Cond.methodLink RX8 176 yX8_isTaken, Cond.instanceMethod yX8_isTaken, Cond.selects RX8 yX8_isTaken yX8_isTaken, Cond.code yX8_isTaken cX8_isTaken 7 (some .boolean), Cond.methodLink RX8 161 yX8_has, Cond.static yX8_has, Cond.code yX8_has cX8_has 2 (some .boolean), Cond.methodLink RX8 165 yX8_kindIn, Cond.instanceMethod yX8_kindIn, Cond.selects RX8 yX8_kindIn yX8_kindIn, Cond.code yX8_kindIn cX8_kindIn 2 (some .int), Cond.methodLink RX8 168 yX8_takesBy, Cond.instanceMethod yX8_takesBy, Cond.selects RX8 yX8_takesBy yX8_takesBy, Cond.code yX8_takesBy cX8_takesBy 5 (some .boolean), Cond.methodLink RX8 152 yX8_distance, Cond.instanceMethod yX8_distance, Cond.selects RX8 yX8_distance yX8_distance]
def wsL_law_r23 : List Cond := [Cond.code yX8_distance cX8_distance 5 (some .int), Cond.methodLink RX8 155 yX8_lips, Cond.instanceMethod yX8_lips, Cond.selects RX8 yX8_lips yX8_lips, Cond.code yX8_lips cX8_lips 5 (some .int), Cond.methodLink RL 54 yX7_start, Cond.instanceMethod yX7_start, Cond.selects RX7 yX7_start yX7_start, Cond.code yX7_start cX7_start 3 (some .int), Cond.fieldLink RX7 184 "WrongWord$Moment" "start" "I", Cond.methodLink RL 57 yX8_start, Cond.instanceMethod yX8_start, Cond.selects RX8 yX8_start yX8_start, Cond.code yX8_start cX8_start 3 (some .int), Cond.methodLink RL 58 yX7_dismiss, Cond.instanceMethod yX7_dismiss, Cond.selects RX7 yX7_dismiss yX7_dismiss, Cond.code yX7_dismiss cX7_dismiss 3 (some .int), Cond.fieldLink RX7 190 "WrongWord$Moment" "there" "I", Cond.methodLink RX7 187 yX7_isGuard, Cond.instanceMethod yX7_isGuard, Cond.selects RX7 yX7_isGuard yX7_isGuard, Cond.code yX7_isGuard cX7_isGuard 2 (some .boolean), Cond.fieldLink RX7 327 "WrongWord$Gate" "guards" "I"]
def wsL_law_r24 : List Cond := [Cond.methodLink RL 61 yX8_dismiss, Cond.instanceMethod yX8_dismiss, Cond.selects RX8 yX8_dismiss yX8_dismiss, Cond.code yX8_dismiss cX8_dismiss 3 (some .int), Cond.methodLink RX8 199 yX8_isGuard, Cond.instanceMethod yX8_isGuard, Cond.selects RX8 yX8_isGuard yX8_isGuard, Cond.code yX8_isGuard cX8_isGuard 2 (some .boolean), Cond.methodLink RL 62 yX7_undo, Cond.instanceMethod yX7_undo, Cond.selects RX7 yX7_undo yX7_undo, Cond.code yX7_undo cX7_undo 1 (some .int), Cond.fieldLink RX7 197 "WrongWord$Acts" "kept" "I", Cond.methodLink RX7 193 yX0_takeBack, Cond.instanceMethod yX0_takeBack, Cond.selects RX0 yX0_takeBack yX0_takeBack, Cond.code yX0_takeBack cX0_takeBack 2 (some .boolean), Cond.methodLink RL 65 yX8_undo, Cond.instanceMethod yX8_undo, Cond.selects RX8 yX8_undo yX8_undo, Cond.code yX8_undo cX8_undo 1 (some .int), Cond.methodLink RL 66 yX7_letter, Cond.instanceMethod yX7_letter, Cond.selects RX7 yX7_letter yX7_letter]
def wsL_law_r25 : List Cond := [Cond.code yX7_letter cX7_letter 3 (some .int), Cond.fieldLink RX7 200 "WrongWord$Gate" "letters" "[I", Cond.methodLink RL 69 yX8_letter, Cond.instanceMethod yX8_letter, Cond.selects RX8 yX8_letter yX8_letter, Cond.code yX8_letter cX8_letter 3 (some .int), Cond.methodLink RL 70 yX7_like, Cond.instanceMethod yX7_like, Cond.selects RX7 yX7_like yX7_like, Cond.code yX7_like cX7_like 4 (some .int), Cond.methodLink RX7 203 yX2_distance, Cond.methodLink RX7 206 yX2_lips, Cond.methodLink RL 73 yX8_like, Cond.instanceMethod yX8_like, Cond.selects RX8 yX8_like yX8_like, Cond.code yX8_like cX8_like 4 (some .int), Cond.methodLink RL 74 yX7_guard, Cond.instanceMethod yX7_guard, Cond.selects RX7 yX7_guard yX7_guard, Cond.code yX7_guard cX7_guard 3 (some .int), Cond.fieldLink RX7 209 "WrongWord$Gate" "fees" "[I", Cond.fieldLink RX7 212 "WrongWord$Moment" "took" "[I", Cond.methodLink RX7 215 yX2_hoursOf, Cond.instanceMethod yX2_hoursOf]
def wsL_law_r26 : List Cond := [Cond.selects RX2 yX2_hoursOf yX2_hoursOf, Cond.code yX2_hoursOf cX2_hoursOf 4 (some .int), Cond.methodLink RL 77 yX8_guard, Cond.instanceMethod yX8_guard, Cond.selects RX8 yX8_guard yX8_guard, Cond.code yX8_guard cX8_guard 3 (some .int), Cond.methodLink RX8 202 yX8_hoursOf, Cond.instanceMethod yX8_hoursOf, Cond.selects RX8 yX8_hoursOf yX8_hoursOf, Cond.code yX8_hoursOf cX8_hoursOf 4 (some .int), Cond.methodLink RL 78 yX7_tried, Cond.instanceMethod yX7_tried, Cond.selects RX7 yX7_tried yX7_tried, Cond.code yX7_tried cX7_tried 3 (some .int), Cond.fieldLink RX7 218 "WrongWord$Moment" "triedWord" "[I", Cond.fieldLink RX7 221 "WrongWord$Moment" "triedGuard" "[I", Cond.fieldLink RX7 224 "WrongWord$Moment" "triedTaken" "[I", Cond.methodLink RL 81 yX8_tried, Cond.instanceMethod yX8_tried, Cond.selects RX8 yX8_tried yX8_tried, Cond.code yX8_tried cX8_tried 4 (some .int), Cond.methodLink RL 82 yX7_secret, Cond.instanceMethod yX7_secret, Cond.selects RX7 yX7_secret yX7_secret]
def wsL_law_r27 : List Cond := [Cond.code yX7_secret cX7_secret 2 (some .int), Cond.methodLink RX7 227 yX7_isAhead, Cond.instanceMethod yX7_isAhead, Cond.selects RX7 yX7_isAhead yX7_isAhead, Cond.code yX7_isAhead cX7_isAhead 2 (some .boolean), Cond.methodLink RL 85 yX8_secret, Cond.instanceMethod yX8_secret, Cond.selects RX8 yX8_secret yX8_secret, Cond.code yX8_secret cX8_secret 2 (some .int), Cond.methodLink RX8 205 yX8_isFar, Cond.static yX8_isFar, Cond.code yX8_isFar cX8_isFar 1 (some .boolean), Cond.methodLink RL 86 yX7_taken, Cond.instanceMethod yX7_taken, Cond.selects RX7 yX7_taken yX7_taken, Cond.code yX7_taken cX7_taken 4 (some .int), Cond.methodLink RL 89 yX8_taken, Cond.instanceMethod yX8_taken, Cond.selects RX8 yX8_taken yX8_taken, Cond.code yX8_taken cX8_taken 4 (some .int), Cond.methodLink RL 90 yX7_safe, Cond.instanceMethod yX7_safe, Cond.selects RX7 yX7_safe yX7_safe, Cond.code yX7_safe cX7_safe 3 (some .int)]
def wsL_law_r28 : List Cond := [Cond.methodLink RX7 230 yX2_wordsIn, Cond.instanceMethod yX2_wordsIn, Cond.selects RX2 yX2_wordsIn yX2_wordsIn, Cond.code yX2_wordsIn cX2_wordsIn 5 (some .int), Cond.methodLink RX2 96 yX2_catches, Cond.methodLink RL 93 yX8_safe, Cond.instanceMethod yX8_safe, Cond.selects RX8 yX8_safe yX8_safe, Cond.code yX8_safe cX8_safe 5 (some .int), Cond.methodLink RL 94 yX7_open, Cond.instanceMethod yX7_open, Cond.selects RX7 yX7_open yX7_open, Cond.code yX7_open cX7_open 3 (some .int), Cond.methodLink RX7 233 yX7_areWords, Cond.instanceMethod yX7_areWords, Cond.selects RX7 yX7_areWords yX7_areWords, Cond.code yX7_areWords cX7_areWords 2 (some .boolean), Cond.methodLink RX7 236 yX2_hoursOpen, Cond.instanceMethod yX2_hoursOpen, Cond.selects RX2 yX2_hoursOpen yX2_hoursOpen, Cond.code yX2_hoursOpen cX2_hoursOpen 5 (some .int), Cond.methodLink RX2 100 yX2_wordsIn, Cond.methodLink RL 97 yX8_open, Cond.instanceMethod yX8_open]
def wsL_law_r29 : List Cond := [Cond.selects RX8 yX8_open yX8_open, Cond.code yX8_open cX8_open 5 (some .int), Cond.methodLink RX8 208 yX8_areWords, Cond.instanceMethod yX8_areWords, Cond.selects RX8 yX8_areWords yX8_areWords, Cond.code yX8_areWords cX8_areWords 2 (some .boolean), Cond.methodLink RX8 211 yX8_areIn, Cond.instanceMethod yX8_areIn, Cond.selects RX8 yX8_areIn yX8_areIn, Cond.code yX8_areIn cX8_areIn 8 (some .boolean), Cond.methodLink RL 98 yX7_next, Cond.instanceMethod yX7_next, Cond.selects RX7 yX7_next yX7_next, Cond.code yX7_next cX7_next 2 (some .int), Cond.methodLink RX7 239 yX2_nightsUntil, Cond.instanceMethod yX2_nightsUntil, Cond.selects RX2 yX2_nightsUntil yX2_nightsUntil, Cond.code yX2_nightsUntil cX2_nightsUntil 3 (some .int), Cond.constant RX2 103 (-1000000), Cond.methodLink RL 101 yX8_next, Cond.instanceMethod yX8_next, Cond.selects RX8 yX8_next yX8_next, Cond.code yX8_next cX8_next 3 (some .int), Cond.methodLink RL 102 yX7_agree]
def wsL_law_r30 : List Cond := [Cond.instanceMethod yX7_agree, Cond.selects RX7 yX7_agree yX7_agree, Cond.code yX7_agree cX7_agree 1 (some .int), Cond.methodLink RX7 242 yX3_agreeing, Cond.static yX3_agreeing, Cond.code yX3_agreeing cX3_agreeing 3 (some .int), Cond.fieldLink RX3 18 "WrongWord$Gate" "words" "I", Cond.methodLink RX3 24 yX3_agreesWithTries, Cond.static yX3_agreesWithTries, Cond.code yX3_agreesWithTries cX3_agreesWithTries 6 (some .boolean), Cond.fieldLink RX3 32 "WrongWord$Gate" "now" "LWrongWord$Moment;", Cond.fieldLink RX3 36 "WrongWord$Moment" "tries" "I", Cond.fieldLink RX3 41 "WrongWord$Moment" "triedGuard" "[I", Cond.fieldLink RX3 44 "WrongWord$Gate" "guards" "I", Cond.fieldLink RX3 47 "WrongWord$Gate" "kinds" "[I", Cond.fieldLink RX3 50 "WrongWord$Moment" "triedWord" "[I", Cond.fieldLink RX3 53 "WrongWord$Moment" "night" "I", Cond.fieldLink RX3 60 "WrongWord$Moment" "triedTaken" "[I", Cond.methodLink RX3 56 yX2_wouldTake, Cond.methodLink RL 105 yX8_agree, Cond.instanceMethod yX8_agree, Cond.selects RX8 yX8_agree yX8_agree, Cond.code yX8_agree cX8_agree 1 (some .int), Cond.methodLink RX8 214 yX8_agreeing]
def wsL_law_r31 : List Cond := [Cond.instanceMethod yX8_agreeing, Cond.selects RX8 yX8_agreeing yX8_agreeing, Cond.code yX8_agreeing cX8_agreeing 6 (some .int), Cond.methodLink RL 106 yX7_man, Cond.instanceMethod yX7_man, Cond.selects RX7 yX7_man yX7_man, Cond.code yX7_man cX7_man 4 (some .int), Cond.methodLink RX7 246 yX3_bestTry, Cond.static yX3_bestTry, Cond.code yX3_bestTry cX3_bestTry 6 (some .int), Cond.methodLink RX3 82 yX3_leftAtWorst, Cond.static yX3_leftAtWorst, Cond.code yX3_leftAtWorst cX3_leftAtWorst 4 (some .int), Cond.methodLink RX3 76 Lib.Math.max.name, Cond.static Lib.Math.max.name, Cond.code Lib.Math.max.name Lib.Math.max.code 2 (some .int), Cond.methodLink RX3 66 yX3_secretsCatching, Cond.static yX3_secretsCatching, Cond.code yX3_secretsCatching cX3_secretsCatching 5 (some .int), Cond.methodLink RX3 63 yX2_catchesIf, Cond.methodLink RX3 70 yJ6_bitCount_0f7a4, Cond.static yJ6_bitCount_0f7a4, Cond.initialized RJ6, Cond.code yJ6_bitCount_0f7a4 cJ6_bitCount_0f7a4 1 (some .int)]
def wsL_law_r32 : List Cond := [Cond.constant RJ6 265 (1431655765), Cond.constant RJ6 266 (858993459), Cond.constant RJ6 267 (252645135), Cond.methodLink RX7 250 yX3_leftAtWorst, Cond.methodLink RL 109 yX8_man, Cond.instanceMethod yX8_man, Cond.selects RX8 yX8_man yX8_man, Cond.code yX8_man cX8_man 11 (some .int), Cond.methodLink RX8 217 yX8_ones, Cond.static yX8_ones, Cond.code yX8_ones cX8_ones 3 (some .int), Cond.methodLink RX8 220 yX8_takenOf, Cond.instanceMethod yX8_takenOf, Cond.selects RX8 yX8_takenOf yX8_takenOf, Cond.code yX8_takenOf cX8_takenOf 6 (some .int), Cond.methodLink RL 110 yX7_fewest, Cond.instanceMethod yX7_fewest, Cond.selects RX7 yX7_fewest yX7_fewest, Cond.code yX7_fewest cX7_fewest 1 (some .int), Cond.methodLink RX7 254 yX3_fewestMen, Cond.instanceMethod yX3_fewestMen, Cond.selects RX3 yX3_fewestMen yX3_fewestMen, Cond.code yX3_fewestMen cX3_fewestMen 5 (some .int), Cond.constant RX3 88 (-1000000)]
def wsL_law_r33 : List Cond := [Cond.methodLink RX3 85 yX3_menToSplit, Cond.instanceMethod yX3_menToSplit, Cond.selects RX3 yX3_menToSplit yX3_menToSplit, Cond.code yX3_menToSplit cX3_menToSplit 6 (some .int), Cond.methodLink RX3 89 Lib.Math.min.name, Cond.methodLink RL 113 yX8_fewest, Cond.instanceMethod yX8_fewest, Cond.selects RX8 yX8_fewest yX8_fewest, Cond.code yX8_fewest cX8_fewest 3 (some .int), Cond.methodLink RX8 224 yX8_menFor, Cond.instanceMethod yX8_menFor, Cond.selects RX8 yX8_menFor yX8_menFor, Cond.code yX8_menFor cX8_menFor 8 (some .int), Cond.methodLink RL 114 yX7_march, Cond.instanceMethod yX7_march, Cond.selects RX7 yX7_march yX7_march, Cond.code yX7_march cX7_march 6 (some .int), Cond.methodLink RX7 257 yX7_hourOfLast, Cond.instanceMethod yX7_hourOfLast, Cond.selects RX7 yX7_hourOfLast yX7_hourOfLast, Cond.code yX7_hourOfLast cX7_hourOfLast 7 (some .int), Cond.methodLink RX7 337 yX2_hourIn, Cond.instanceMethod yX2_hourIn, Cond.selects RX2 yX2_hourIn yX2_hourIn]
def wsL_law_r34 : List Cond := [Cond.code yX2_hourIn cX2_hourIn 4 (some .int), Cond.methodLink RL 118 yX8_march, Cond.instanceMethod yX8_march, Cond.selects RX8 yX8_march yX8_march, Cond.code yX8_march cX8_march 9 (some .int), Cond.methodLink RL 119 yX7_cheap, Cond.instanceMethod yX7_cheap, Cond.selects RX7 yX7_cheap yX7_cheap, Cond.code yX7_cheap cX7_cheap 5 (some .int), Cond.methodLink RX7 261 yX2_guardsAgainst, Cond.instanceMethod yX2_guardsAgainst, Cond.selects RX2 yX2_guardsAgainst yX2_guardsAgainst, Cond.code yX2_guardsAgainst cX2_guardsAgainst 5 (some .int), Cond.methodLink RX7 264 yX2_feeOf, Cond.instanceMethod yX2_feeOf, Cond.selects RX2 yX2_feeOf yX2_feeOf, Cond.code yX2_feeOf cX2_feeOf 4 (some .int), Cond.methodLink RL 122 yX8_cheap, Cond.instanceMethod yX8_cheap, Cond.selects RX8 yX8_cheap yX8_cheap, Cond.code yX8_cheap cX8_cheap 10 (some .int), Cond.methodLink RL 123 yX7_near, Cond.instanceMethod yX7_near, Cond.selects RX7 yX7_near yX7_near]
def wsL_law_r35 : List Cond := [Cond.code yX7_near cX7_near 4 (some .int), Cond.methodLink RX7 267 yX2_nearestTo, Cond.instanceMethod yX2_nearestTo, Cond.selects RX2 yX2_nearestTo yX2_nearestTo, Cond.code yX2_nearestTo cX2_nearestTo 5 (some .int), Cond.methodLink RL 126 yX8_near, Cond.instanceMethod yX8_near, Cond.selects RX8 yX8_near yX8_near, Cond.code yX8_near cX8_near 5 (some .int), Cond.methodLink RL 127 yX7_rules, Cond.instanceMethod yX7_rules, Cond.selects RX7 yX7_rules yX7_rules, Cond.code yX7_rules cX7_rules 6 (some .int), Cond.methodLink RX7 270 yX7_rulesThatTell, Cond.instanceMethod yX7_rulesThatTell, Cond.selects RX7 yX7_rulesThatTell yX7_rulesThatTell, Cond.code yX7_rulesThatTell cX7_rulesThatTell 13 (some .int), Cond.fieldLink RX7 340 "WrongWord$Gate" "step" "I", Cond.fieldLink RX7 343 "WrongWord$Gate" "shrove" "I", Cond.methodLink RX7 346 yX2_secretBy, Cond.methodLink RL 130 yX8_rules, Cond.instanceMethod yX8_rules, Cond.selects RX8 yX8_rules yX8_rules, Cond.code yX8_rules cX8_rules 9 (some .int)]
def wsL_law_r36 : List Cond := [Cond.methodLink RL 131 yX7_fits, Cond.instanceMethod yX7_fits, Cond.selects RX7 yX7_fits yX7_fits, Cond.code yX7_fits cX7_fits 6 (some .int), Cond.fieldLink RX7 278 "WrongWord$Gate" "kinds" "[I", Cond.methodLink RX7 274 yX7_kindsThatFit, Cond.instanceMethod yX7_kindsThatFit, Cond.selects RX7 yX7_kindsThatFit yX7_kindsThatFit, Cond.code yX7_kindsThatFit cX7_kindsThatFit 6 (some .int), Cond.methodLink RX7 350 yX7_fitsTold, Cond.instanceMethod yX7_fitsTold, Cond.selects RX7 yX7_fitsTold yX7_fitsTold, Cond.code yX7_fitsTold cX7_fitsTold 6 (some .boolean), Cond.methodLink RX7 354 yX2_wouldTake, Cond.methodLink RX7 281 yX7_secretsThatFit, Cond.instanceMethod yX7_secretsThatFit, Cond.selects RX7 yX7_secretsThatFit yX7_secretsThatFit, Cond.code yX7_secretsThatFit cX7_secretsThatFit 6 (some .int), Cond.methodLink RL 134 yX8_fits, Cond.instanceMethod yX8_fits, Cond.selects RX8 yX8_fits yX8_fits, Cond.code yX8_fits cX8_fits 8 (some .int), Cond.methodLink RX8 227 yX8_takesSo, Cond.instanceMethod yX8_takesSo]
def wsL_law_r37 : List Cond := [Cond.selects RX8 yX8_takesSo yX8_takesSo, Cond.code yX8_takesSo cX8_takesSo 6 (some .boolean), Cond.methodLink RL 135 yX7_sure, Cond.instanceMethod yX7_sure, Cond.selects RX7 yX7_sure yX7_sure, Cond.code yX7_sure cX7_sure 10 (some .int), Cond.methodLink RX7 285 yJ6_bitCount_0f7a4, Cond.methodLink RX7 290 yX3_secretsCatching, Cond.methodLink RX7 293 yX7_commonDivisor, Cond.static yX7_commonDivisor, Cond.code yX7_commonDivisor cX7_commonDivisor 3 (some .int), Cond.methodLink RX7 296 yX7_lowest, Cond.static yX7_lowest, Cond.code yX7_lowest cX7_lowest 2 (some .int), Cond.methodLink RL 138 yX8_sure, Cond.instanceMethod yX8_sure, Cond.selects RX8 yX8_sure yX8_sure, Cond.code yX8_sure cX8_sure 12 (some .int), Cond.methodLink RL 139 yX7_drawn, Cond.instanceMethod yX7_drawn, Cond.selects RX7 yX7_drawn yX7_drawn, Cond.code yX7_drawn cX7_drawn 10 (some .int), Cond.constant RX7 299 (999999), Cond.constantLong RX7 300 (16807)]
def wsL_law_r38 : List Cond := [Cond.constantLong RX7 302 (2147483647), Cond.methodLink RX7 304 yX7_rest, Cond.methodLink RL 142 yX8_drawn, Cond.instanceMethod yX8_drawn, Cond.selects RX8 yX8_drawn yX8_drawn, Cond.code yX8_drawn cX8_drawn 11 (some .int), Cond.constant RX8 230 (999999), Cond.constantLong RX8 231 (16807), Cond.constantLong RX8 233 (2147483647), Cond.constantLong RX8 235 (6), Cond.methodLink RL 143 yX7_image, Cond.instanceMethod yX7_image, Cond.selects RX7 yX7_image yX7_image, Cond.code yX7_image cX7_image 2 (some .int), Cond.methodLink RL 146 yX8_image, Cond.instanceMethod yX8_image, Cond.selects RX8 yX8_image yX8_image, Cond.code yX8_image cX8_image 2 (some .int), Cond.methodLink RL 147 yX7_restore, Cond.instanceMethod yX7_restore, Cond.selects RX7 yX7_restore yX7_restore, Cond.code yX7_restore cX7_restore 2 (some .int), Cond.methodLink RL 150 yX8_restore, Cond.instanceMethod yX8_restore]
def wsL_law_r39 : List Cond := [Cond.selects RX8 yX8_restore yX8_restore, Cond.code yX8_restore cX8_restore 2 (some .int), Cond.methodLink RL 151 yX7_kind, Cond.instanceMethod yX7_kind, Cond.selects RX7 yX7_kind yX7_kind, Cond.code yX7_kind cX7_kind 2 (some .int), Cond.methodLink RL 154 yX8_kind, Cond.instanceMethod yX8_kind, Cond.selects RX8 yX8_kind yX8_kind, Cond.code yX8_kind cX8_kind 2 (some .int), Cond.methodLink RL 155 yX7_as, Cond.instanceMethod yX7_as, Cond.selects RX7 yX7_as yX7_as, Cond.code yX7_as cX7_as 3 (some .int), Cond.methodLink RX7 307 yX1_isA, Cond.static yX1_isA, Cond.code yX1_isA cX1_isA 4 (some .boolean), Cond.fieldLink RX1 15 "WrongWord$Asks" "NEAREST_ABOVE" "[I", Cond.methodLink RL 158 yX8_as, Cond.instanceMethod yX8_as, Cond.selects RX8 yX8_as yX8_as, Cond.code yX8_as cX8_as 5 (some .int), Cond.methodLink RL 159 yX7_ask, Cond.instanceMethod yX7_ask]
def wsL_law_r40 : List Cond := [Cond.selects RX7 yX7_ask yX7_ask, Cond.code yX7_ask cX7_ask 3 (some .int), Cond.methodLink RX7 310 yX1_turnTo, Cond.instanceMethod yX1_turnTo, Cond.selects RX1 yX1_turnTo yX1_turnTo, Cond.code yX1_turnTo cX1_turnTo 5 none, Cond.fieldLink RX1 18 "WrongWord$Asks" "number" "I", Cond.fieldLink RX1 22 "WrongWord$Asks" "kind" "I", Cond.fieldLink RX1 25 "WrongWord$Asks" "fee" "I", Cond.fieldLink RX1 28 "WrongWord$Asks" "took" "I", Cond.fieldLink RX1 31 "WrongWord$Asks" "begun" "I", Cond.methodLink RX7 314 yX1_answer, Cond.instanceMethod yX1_answer, Cond.selects RX1 yX1_answer yX1_answer, Cond.code yX1_answer cX1_answer 2 (some .int), Cond.methodLink RX1 34 yX1_sizeBody, Cond.instanceMethod yX1_sizeBody, Cond.selects RX1 yX1_sizeBody yX1_sizeBody, Cond.code yX1_sizeBody cX1_sizeBody 1 (some .int), Cond.fieldLink RX1 45 "WrongWord$Asks" "SIZE_BODY" "[I", Cond.methodLink RX1 38 yX1_markBody, Cond.instanceMethod yX1_markBody, Cond.selects RX1 yX1_markBody yX1_markBody, Cond.code yX1_markBody cX1_markBody 1 (some .int)]
def wsL_law_r41 : List Cond := [Cond.fieldLink RX1 48 "WrongWord$Asks" "MARK_BODY" "[I", Cond.methodLink RX1 41 yX1_given, Cond.static yX1_given, Cond.code yX1_given cX1_given 4 (some .int), Cond.methodLink RX1 51 yX1_leave, Cond.instanceMethod yX1_leave, Cond.selects RX1 yX1_leave yX1_leave, Cond.code yX1_leave cX1_leave 2 none, Cond.methodLink RL 162 yX8_ask, Cond.instanceMethod yX8_ask, Cond.selects RX8 yX8_ask yX8_ask, Cond.code yX8_ask cX8_ask 4 (some .int), Cond.fieldLink RX8 237 "WrongWordModel" "traced" "I", Cond.methodLink RX8 247 yX8_deafSize, Cond.instanceMethod yX8_deafSize, Cond.selects RX8 yX8_deafSize yX8_deafSize, Cond.code yX8_deafSize cX8_deafSize 4 (some .int), Cond.methodLink RX8 240 yX8_begins, Cond.instanceMethod yX8_begins, Cond.selects RX8 yX8_begins yX8_begins, Cond.code yX8_begins cX8_begins 2 none, Cond.methodLink RX8 250 yX8_keenSize, Cond.instanceMethod yX8_keenSize, Cond.selects RX8 yX8_keenSize yX8_keenSize]
def wsL_law_r42 : List Cond := [Cond.code yX8_keenSize cX8_keenSize 4 (some .int), Cond.methodLink RX8 244 yX8_keenMark, Cond.instanceMethod yX8_keenMark, Cond.selects RX8 yX8_keenMark yX8_keenMark, Cond.code yX8_keenMark cX8_keenMark 4 (some .int), Cond.methodLink RX8 253 yX8_deafMark, Cond.instanceMethod yX8_deafMark, Cond.selects RX8 yX8_deafMark yX8_deafMark, Cond.code yX8_deafMark cX8_deafMark 2 (some .int), Cond.methodLink RL 163 yX7_trace, Cond.instanceMethod yX7_trace, Cond.selects RX7 yX7_trace yX7_trace, Cond.code yX7_trace cX7_trace 2 (some .int), Cond.fieldLink RX7 317 "WrongWord$Asks" "begun" "I", Cond.fieldLink RX7 320 "WrongWord$Asks" "bodies" "[I", Cond.methodLink RL 166 yX8_trace, Cond.instanceMethod yX8_trace, Cond.selects RX8 yX8_trace yX8_trace, Cond.code yX8_trace cX8_trace 2 (some .int), Cond.methodLink RL 167 yX7_count, Cond.instanceMethod yX7_count, Cond.selects RX7 yX7_count yX7_count, Cond.code yX7_count cX7_count 2 (some .int), Cond.methodLink RX7 323 yX7_rowsThere]
def wsL_law_r43 : List Cond := [Cond.instanceMethod yX7_rowsThere, Cond.selects RX7 yX7_rowsThere yX7_rowsThere, Cond.code yX7_rowsThere cX7_rowsThere 3 (some .int), Cond.methodLink RX7 330 yX4_tookInAll, Cond.instanceMethod yX4_tookInAll, Cond.selects RX4 yX4_tookInAll yX4_tookInAll, Cond.code yX4_tookInAll cX4_tookInAll 3 (some .int), Cond.methodLink RL 170 yX8_count, Cond.instanceMethod yX8_count, Cond.selects RX8 yX8_count yX8_count, Cond.code yX8_count cX8_count 4 (some .int), Cond.methodLink RL 171 yX7_status, Cond.instanceMethod yX7_status, Cond.selects RX7 yX7_status yX7_status, Cond.code yX7_status cX7_status 1 (some .int), Cond.methodLink RL 174 yX8_status, Cond.instanceMethod yX8_status, Cond.selects RX8 yX8_status yX8_status, Cond.code yX8_status cX8_status 1 (some .int)]
def wsL_law : List Cond := (wsL_law_r1 ++ (wsL_law_r2 ++ (wsL_law_r3 ++ (wsL_law_r4 ++ (wsL_law_r5 ++ (wsL_law_r6 ++ (wsL_law_r7 ++ (wsL_law_r8 ++ (wsL_law_r9 ++ (wsL_law_r10 ++ (wsL_law_r11 ++ (wsL_law_r12 ++ (wsL_law_r13 ++ (wsL_law_r14 ++ (wsL_law_r15 ++ (wsL_law_r16 ++ (wsL_law_r17 ++ (wsL_law_r18 ++ (wsL_law_r19 ++ (wsL_law_r20 ++ (wsL_law_r21 ++ (wsL_law_r22 ++ (wsL_law_r23 ++ (wsL_law_r24 ++ (wsL_law_r25 ++ (wsL_law_r26 ++ (wsL_law_r27 ++ (wsL_law_r28 ++ (wsL_law_r29 ++ (wsL_law_r30 ++ (wsL_law_r31 ++ (wsL_law_r32 ++ (wsL_law_r33 ++ (wsL_law_r34 ++ (wsL_law_r35 ++ (wsL_law_r36 ++ (wsL_law_r37 ++ (wsL_law_r38 ++ (wsL_law_r39 ++ (wsL_law_r40 ++ (wsL_law_r41 ++ (wsL_law_r42 ++ wsL_law_r43)))))))))))))))))))))))))))))))))))))))))) ++ wsX70 ++ wsX80 ++ wsX60 ++ wsX20 ++ wsX00 ++ wsX30 ++ wsX10 ++ wsX50 ++ wsX40 ++ ([] : List Cond)
set_option maxRecDepth 100000 in
theorem wsLi_1 : ∀ w ∈ wsL_law_r1, w ∈ lw_tbl := fun w h => (goodIn_p wsL_law_r1 [83, 86] (by decide +kernel) (by decide +kernel) w h).1
set_option maxRecDepth 100000 in
theorem wsLi_2 : ∀ w ∈ wsL_law_r2, w ∈ lw_tbl := fun w h => (goodIn_p wsL_law_r2 [93, 99] (by decide +kernel) (by decide +kernel) w h).1
set_option maxRecDepth 100000 in
theorem wsLi_3 : ∀ w ∈ wsL_law_r3, w ∈ lw_tbl := fun w h => (goodIn_p wsL_law_r3 [105, 227, 248] (by decide +kernel) (by decide +kernel) w h).1
set_option maxRecDepth 100000 in
theorem wsLi_4 : ∀ w ∈ wsL_law_r4, w ∈ lw_tbl := fun w h => (goodIn_p wsL_law_r4 [261, 287, 834] (by decide +kernel) (by decide +kernel) w h).1
set_option maxRecDepth 100000 in
theorem wsLi_5 : ∀ w ∈ wsL_law_r5, w ∈ lw_tbl := fun w h => (goodIn_p wsL_law_r5 [333, 337, 342, 347] (by decide +kernel) (by decide +kernel) w h).1
set_option maxRecDepth 100000 in
theorem wsLi_6 : ∀ w ∈ wsL_law_r6, w ∈ lw_tbl := fun w h => (goodIn_p wsL_law_r6 [351, 911, 914, 917, 922] (by decide +kernel) (by decide +kernel) w h).1
set_option maxRecDepth 100000 in
theorem wsLi_7 : ∀ w ∈ wsL_law_r7, w ∈ lw_tbl := fun w h => (goodIn_p wsL_law_r7 [927, 355, 359, 363, 367, 931] (by decide +kernel) (by decide +kernel) w h).1
set_option maxRecDepth 100000 in
theorem wsLi_8 : ∀ w ∈ wsL_law_r8, w ∈ lw_tbl := fun w h => (goodIn_p wsL_law_r8 [935, 938, 371, 942, 946] (by decide +kernel) (by decide +kernel) w h).1
set_option maxRecDepth 100000 in
theorem wsLi_9 : ∀ w ∈ wsL_law_r9, w ∈ lw_tbl := fun w h => (goodIn_p wsL_law_r9 [379, 950, 383, 387, 954] (by decide +kernel) (by decide +kernel) w h).1
set_option maxRecDepth 100000 in
theorem wsLi_10 : ∀ w ∈ wsL_law_r10, w ∈ lw_tbl := fun w h => (goodIn_p wsL_law_r10 [392, 396, 400] (by decide +kernel) (by decide +kernel) w h).1
set_option maxRecDepth 100000 in
theorem wsLi_11 : ∀ w ∈ wsL_law_r11, w ∈ lw_tbl := fun w h => (goodIn_p wsL_law_r11 [404, 408, 412, 416, 419] (by decide +kernel) (by decide +kernel) w h).1
set_option maxRecDepth 100000 in
theorem wsLi_12 : ∀ w ∈ wsL_law_r12, w ∈ lw_tbl := fun w h => (goodIn_p wsL_law_r12 [423, 427, 431, 435, 438] (by decide +kernel) (by decide +kernel) w h).1
set_option maxRecDepth 100000 in
theorem wsLi_13 : ∀ w ∈ wsL_law_r13, w ∈ lw_tbl := fun w h => (goodIn_p wsL_law_r13 [443, 448, 453] (by decide +kernel) (by decide +kernel) w h).1
set_option maxRecDepth 100000 in
theorem wsLi_14 : ∀ w ∈ wsL_law_r14, w ∈ lw_tbl := fun w h => (goodIn_p wsL_law_r14 [458, 959, 963, 967] (by decide +kernel) (by decide +kernel) w h).1
set_option maxRecDepth 100000 in
theorem wsLi_15 : ∀ w ∈ wsL_law_r15, w ∈ lw_tbl := fun w h => (goodIn_p wsL_law_r15 [971, 975, 979, 983, 987, 991] (by decide +kernel) (by decide +kernel) w h).1
set_option maxRecDepth 100000 in
theorem wsLi_16 : ∀ w ∈ wsL_law_r16, w ∈ lw_tbl := fun w h => (goodIn_p wsL_law_r16 [995, 999, 1002, 1006, 1010, 462, 1014] (by decide +kernel) (by decide +kernel) w h).1
set_option maxRecDepth 100000 in
theorem wsLi_17 : ∀ w ∈ wsL_law_r17, w ∈ lw_tbl := fun w h => (goodIn_p wsL_law_r17 [466, 470, 475, 479] (by decide +kernel) (by decide +kernel) w h).1
set_option maxRecDepth 100000 in
theorem wsLi_18 : ∀ w ∈ wsL_law_r18, w ∈ lw_tbl := fun w h => (goodIn_p wsL_law_r18 [483, 487, 491, 494, 1018, 1022] (by decide +kernel) (by decide +kernel) w h).1
set_option maxRecDepth 100000 in
theorem wsLi_19 : ∀ w ∈ wsL_law_r19, w ∈ lw_tbl := fun w h => (goodIn_p wsL_law_r19 [1027, 1031, 1034, 498, 502, 506] (by decide +kernel) (by decide +kernel) w h).1
set_option maxRecDepth 100000 in
theorem wsLi_20 : ∀ w ∈ wsL_law_r20, w ∈ lw_tbl := fun w h => (goodIn_p wsL_law_r20 [510, 514, 519, 524, 528] (by decide +kernel) (by decide +kernel) w h).1
set_option maxRecDepth 100000 in
theorem wsLi_21 : ∀ w ∈ wsL_law_r21, w ∈ lw_tbl := fun w h => (goodIn_p wsL_law_r21 [533, 539, 542, 1038, 1042, 1045] (by decide +kernel) (by decide +kernel) w h).1
set_option maxRecDepth 100000 in
theorem wsLi_22 : ∀ w ∈ wsL_law_r22, w ∈ lw_tbl := fun w h => (goodIn_p wsL_law_r22 [1049, 1053, 1057, 1060, 1064, 1068] (by decide +kernel) (by decide +kernel) w h).1
set_option maxRecDepth 100000 in
theorem wsLi_23 : ∀ w ∈ wsL_law_r23, w ∈ lw_tbl := fun w h => (goodIn_p wsL_law_r23 [1072, 1076, 547, 1080, 551, 555] (by decide +kernel) (by decide +kernel) w h).1
set_option maxRecDepth 100000 in
theorem wsLi_24 : ∀ w ∈ wsL_law_r24, w ∈ lw_tbl := fun w h => (goodIn_p wsL_law_r24 [1084, 1088, 559, 563, 1092] (by decide +kernel) (by decide +kernel) w h).1
set_option maxRecDepth 100000 in
theorem wsLi_25 : ∀ w ∈ wsL_law_r25, w ∈ lw_tbl := fun w h => (goodIn_p wsL_law_r25 [567, 1096, 571, 1100, 577] (by decide +kernel) (by decide +kernel) w h).1
set_option maxRecDepth 100000 in
theorem wsLi_26 : ∀ w ∈ wsL_law_r26, w ∈ lw_tbl := fun w h => (goodIn_p wsL_law_r26 [581, 1104, 1108, 586, 1112] (by decide +kernel) (by decide +kernel) w h).1
set_option maxRecDepth 100000 in
theorem wsLi_27 : ∀ w ∈ wsL_law_r27, w ∈ lw_tbl := fun w h => (goodIn_p wsL_law_r27 [590, 594, 1116, 1119, 598, 1123, 602] (by decide +kernel) (by decide +kernel) w h).1
set_option maxRecDepth 100000 in
theorem wsLi_28 : ∀ w ∈ wsL_law_r28, w ∈ lw_tbl := fun w h => (goodIn_p wsL_law_r28 [606, 1127, 611, 615, 619] (by decide +kernel) (by decide +kernel) w h).1
set_option maxRecDepth 100000 in
theorem wsLi_29 : ∀ w ∈ wsL_law_r29, w ∈ lw_tbl := fun w h => (goodIn_p wsL_law_r29 [1131, 1135, 1139, 624, 628, 1143] (by decide +kernel) (by decide +kernel) w h).1
set_option maxRecDepth 100000 in
theorem wsLi_30 : ∀ w ∈ wsL_law_r30, w ∈ lw_tbl := fun w h => (goodIn_p wsL_law_r30 [633, 636, 639, 1147] (by decide +kernel) (by decide +kernel) w h).1
set_option maxRecDepth 100000 in
theorem wsLi_31 : ∀ w ∈ wsL_law_r31, w ∈ lw_tbl := fun w h => (goodIn_p wsL_law_r31 [1151, 645, 648, 651, 664, 654, 658] (by decide +kernel) (by decide +kernel) w h).1
set_option maxRecDepth 100000 in
theorem wsLi_32 : ∀ w ∈ wsL_law_r32, w ∈ lw_tbl := fun w h => (goodIn_p wsL_law_r32 [1155, 1158, 1162, 669, 673] (by decide +kernel) (by decide +kernel) w h).1
set_option maxRecDepth 100000 in
theorem wsLi_33 : ∀ w ∈ wsL_law_r33, w ∈ lw_tbl := fun w h => (goodIn_p wsL_law_r33 [677, 1166, 1170, 683, 687] (by decide +kernel) (by decide +kernel) w h).1
set_option maxRecDepth 100000 in
theorem wsLi_34 : ∀ w ∈ wsL_law_r34, w ∈ lw_tbl := fun w h => (goodIn_p wsL_law_r34 [691, 1174, 695, 699, 703, 1178] (by decide +kernel) (by decide +kernel) w h).1
set_option maxRecDepth 100000 in
theorem wsLi_35 : ∀ w ∈ wsL_law_r35, w ∈ lw_tbl := fun w h => (goodIn_p wsL_law_r35 [707, 711, 1182, 715, 719, 1186] (by decide +kernel) (by decide +kernel) w h).1
set_option maxRecDepth 100000 in
theorem wsLi_36 : ∀ w ∈ wsL_law_r36, w ∈ lw_tbl := fun w h => (goodIn_p wsL_law_r36 [724, 728, 732, 737, 1190] (by decide +kernel) (by decide +kernel) w h).1
set_option maxRecDepth 100000 in
theorem wsLi_37 : ∀ w ∈ wsL_law_r37, w ∈ lw_tbl := fun w h => (goodIn_p wsL_law_r37 [1194, 741, 746, 749, 1198, 753] (by decide +kernel) (by decide +kernel) w h).1
set_option maxRecDepth 100000 in
theorem wsLi_38 : ∀ w ∈ wsL_law_r38, w ∈ lw_tbl := fun w h => (goodIn_p wsL_law_r38 [1202, 761, 1210, 765] (by decide +kernel) (by decide +kernel) w h).1
set_option maxRecDepth 100000 in
theorem wsLi_39 : ∀ w ∈ wsL_law_r39, w ∈ lw_tbl := fun w h => (goodIn_p wsL_law_r39 [1214, 769, 1218, 773, 776, 1222] (by decide +kernel) (by decide +kernel) w h).1
set_option maxRecDepth 100000 in
theorem wsLi_40 : ∀ w ∈ wsL_law_r40, w ∈ lw_tbl := fun w h => (goodIn_p wsL_law_r40 [782, 786, 790, 794, 800] (by decide +kernel) (by decide +kernel) w h).1
set_option maxRecDepth 100000 in
theorem wsLi_41 : ∀ w ∈ wsL_law_r41, w ∈ lw_tbl := fun w h => (goodIn_p wsL_law_r41 [805, 809, 1226, 1230, 1234] (by decide +kernel) (by decide +kernel) w h).1
set_option maxRecDepth 100000 in
theorem wsLi_42 : ∀ w ∈ wsL_law_r42, w ∈ lw_tbl := fun w h => (goodIn_p wsL_law_r42 [1238, 1242, 1246, 813, 1250, 817] (by decide +kernel) (by decide +kernel) w h).1
set_option maxRecDepth 100000 in
theorem wsLi_43 : ∀ w ∈ wsL_law_r43, w ∈ lw_tbl := fun w h => (goodIn_p wsL_law_r43 [821, 825, 1254, 829, 1258] (by decide +kernel) (by decide +kernel) w h).1
set_option maxRecDepth 100000 in
theorem wsLiX7 : ∀ w ∈ wsX70, w ∈ lw_tbl := by decide +kernel
set_option maxRecDepth 100000 in
theorem wsLiX8 : ∀ w ∈ wsX80, w ∈ lw_tbl := by decide +kernel
set_option maxRecDepth 100000 in
theorem wsLiX6 : ∀ w ∈ wsX60, w ∈ lw_tbl := by decide +kernel
set_option maxRecDepth 100000 in
theorem wsLiX2 : ∀ w ∈ wsX20, w ∈ lw_tbl := by decide +kernel
set_option maxRecDepth 100000 in
theorem wsLiX0 : ∀ w ∈ wsX00, w ∈ lw_tbl := by decide +kernel
set_option maxRecDepth 100000 in
theorem wsLiX3 : ∀ w ∈ wsX30, w ∈ lw_tbl := by decide +kernel
set_option maxRecDepth 100000 in
theorem wsLiX1 : ∀ w ∈ wsX10, w ∈ lw_tbl := by decide +kernel
set_option maxRecDepth 100000 in
theorem wsLiX5 : ∀ w ∈ wsX50, w ∈ lw_tbl := by decide +kernel
set_option maxRecDepth 100000 in
theorem wsLiX4 : ∀ w ∈ wsX40, w ∈ lw_tbl := by decide +kernel
set_option maxRecDepth 100000 in
theorem wsL_law_in : ∀ w ∈ wsL_law, w ∈ lw_tbl := List.forall_mem_append.mpr ⟨List.forall_mem_append.mpr ⟨List.forall_mem_append.mpr ⟨List.forall_mem_append.mpr ⟨List.forall_mem_append.mpr ⟨List.forall_mem_append.mpr ⟨List.forall_mem_append.mpr ⟨List.forall_mem_append.mpr ⟨List.forall_mem_append.mpr ⟨List.forall_mem_append.mpr ⟨List.forall_mem_append.mpr ⟨wsLi_1, List.forall_mem_append.mpr ⟨wsLi_2, List.forall_mem_append.mpr ⟨wsLi_3, List.forall_mem_append.mpr ⟨wsLi_4, List.forall_mem_append.mpr ⟨wsLi_5, List.forall_mem_append.mpr ⟨wsLi_6, List.forall_mem_append.mpr ⟨wsLi_7, List.forall_mem_append.mpr ⟨wsLi_8, List.forall_mem_append.mpr ⟨wsLi_9, List.forall_mem_append.mpr ⟨wsLi_10, List.forall_mem_append.mpr ⟨wsLi_11, List.forall_mem_append.mpr ⟨wsLi_12, List.forall_mem_append.mpr ⟨wsLi_13, List.forall_mem_append.mpr ⟨wsLi_14, List.forall_mem_append.mpr ⟨wsLi_15, List.forall_mem_append.mpr ⟨wsLi_16, List.forall_mem_append.mpr ⟨wsLi_17, List.forall_mem_append.mpr ⟨wsLi_18, List.forall_mem_append.mpr ⟨wsLi_19, List.forall_mem_append.mpr ⟨wsLi_20, List.forall_mem_append.mpr ⟨wsLi_21, List.forall_mem_append.mpr ⟨wsLi_22, List.forall_mem_append.mpr ⟨wsLi_23, List.forall_mem_append.mpr ⟨wsLi_24, List.forall_mem_append.mpr ⟨wsLi_25, List.forall_mem_append.mpr ⟨wsLi_26, List.forall_mem_append.mpr ⟨wsLi_27, List.forall_mem_append.mpr ⟨wsLi_28, List.forall_mem_append.mpr ⟨wsLi_29, List.forall_mem_append.mpr ⟨wsLi_30, List.forall_mem_append.mpr ⟨wsLi_31, List.forall_mem_append.mpr ⟨wsLi_32, List.forall_mem_append.mpr ⟨wsLi_33, List.forall_mem_append.mpr ⟨wsLi_34, List.forall_mem_append.mpr ⟨wsLi_35, List.forall_mem_append.mpr ⟨wsLi_36, List.forall_mem_append.mpr ⟨wsLi_37, List.forall_mem_append.mpr ⟨wsLi_38, List.forall_mem_append.mpr ⟨wsLi_39, List.forall_mem_append.mpr ⟨wsLi_40, List.forall_mem_append.mpr ⟨wsLi_41, List.forall_mem_append.mpr ⟨wsLi_42, wsLi_43⟩⟩⟩⟩⟩⟩⟩⟩⟩⟩⟩⟩⟩⟩⟩⟩⟩⟩⟩⟩⟩⟩⟩⟩⟩⟩⟩⟩⟩⟩⟩⟩⟩⟩⟩⟩⟩⟩⟩⟩⟩⟩, wsLiX7⟩, wsLiX8⟩, wsLiX6⟩, wsLiX2⟩, wsLiX0⟩, wsLiX3⟩, wsLiX1⟩, wsLiX5⟩, wsLiX4⟩, fun _ h => absurd h List.not_mem_nil⟩
theorem inlX0 : ∀ w ∈ wsX00, w ∈ wsL_law := fun _ h => List.mem_append_left _ (List.mem_append_left _ (List.mem_append_left _ (List.mem_append_left _ (List.mem_append_left _ (List.mem_append_right _ h)))))
theorem inX0 : ∀ w ∈ wsX00, w ∈ lw_tbl := fun w h => wsL_law_in w (inlX0 w h)
theorem inlX1 : ∀ w ∈ wsX10, w ∈ wsL_law := fun _ h => List.mem_append_left _ (List.mem_append_left _ (List.mem_append_left _ (List.mem_append_right _ h)))
theorem inX1 : ∀ w ∈ wsX10, w ∈ lw_tbl := fun w h => wsL_law_in w (inlX1 w h)
theorem inlX2 : ∀ w ∈ wsX20, w ∈ wsL_law := fun _ h => List.mem_append_left _ (List.mem_append_left _ (List.mem_append_left _ (List.mem_append_left _ (List.mem_append_left _ (List.mem_append_left _ (List.mem_append_right _ h))))))
theorem inX2 : ∀ w ∈ wsX20, w ∈ lw_tbl := fun w h => wsL_law_in w (inlX2 w h)
theorem inlX3 : ∀ w ∈ wsX30, w ∈ wsL_law := fun _ h => List.mem_append_left _ (List.mem_append_left _ (List.mem_append_left _ (List.mem_append_left _ (List.mem_append_right _ h))))
theorem inX3 : ∀ w ∈ wsX30, w ∈ lw_tbl := fun w h => wsL_law_in w (inlX3 w h)
theorem inlX4 : ∀ w ∈ wsX40, w ∈ wsL_law := fun _ h => List.mem_append_left _ (List.mem_append_right _ h)
theorem inX4 : ∀ w ∈ wsX40, w ∈ lw_tbl := fun w h => wsL_law_in w (inlX4 w h)
theorem inlX5 : ∀ w ∈ wsX50, w ∈ wsL_law := fun _ h => List.mem_append_left _ (List.mem_append_left _ (List.mem_append_right _ h))
theorem inX5 : ∀ w ∈ wsX50, w ∈ lw_tbl := fun w h => wsL_law_in w (inlX5 w h)
theorem inlX6 : ∀ w ∈ wsX60, w ∈ wsL_law := fun _ h => List.mem_append_left _ (List.mem_append_left _ (List.mem_append_left _ (List.mem_append_left _ (List.mem_append_left _ (List.mem_append_left _ (List.mem_append_left _ (List.mem_append_right _ h)))))))
theorem inX6 : ∀ w ∈ wsX60, w ∈ lw_tbl := fun w h => wsL_law_in w (inlX6 w h)
theorem inlX7 : ∀ w ∈ wsX70, w ∈ wsL_law := fun _ h => List.mem_append_left _ (List.mem_append_left _ (List.mem_append_left _ (List.mem_append_left _ (List.mem_append_left _ (List.mem_append_left _ (List.mem_append_left _ (List.mem_append_left _ (List.mem_append_left _ (List.mem_append_right _ h)))))))))
theorem inX7 : ∀ w ∈ wsX70, w ∈ lw_tbl := fun w h => wsL_law_in w (inlX7 w h)
theorem inlX8 : ∀ w ∈ wsX80, w ∈ wsL_law := fun _ h => List.mem_append_left _ (List.mem_append_left _ (List.mem_append_left _ (List.mem_append_left _ (List.mem_append_left _ (List.mem_append_left _ (List.mem_append_left _ (List.mem_append_left _ (List.mem_append_right _ h))))))))
theorem inX8 : ∀ w ∈ wsX80, w ∈ lw_tbl := fun w h => wsL_law_in w (inlX8 w h)
theorem inJ6 : ∀ w ∈ wsJ60, w ∈ lw_tbl := by decide +kernel
theorem inJ9 : ∀ w ∈ wsJ90, w ∈ lw_tbl := by decide +kernel
theorem inJ10 : ∀ w ∈ wsJ100, w ∈ lw_tbl := by decide +kernel
set_option maxRecDepth 20000 in
theorem ggL_law_X7_init : GoodIn wsL_law wsX7_init := goodIn_r _ [8, 9, 10, 11, 12, 13, 14, 15, 16, 17, 18, 19, 20, 21, 22, 23, 24, 25, 26, 27, 28, 29, 30, 31, 32, 33, 34, 35, 36, 37, 38, 39, 40, 41, 42, 43, 44, 45, 46, 47, 48, 49, 50, 51, 52, 53, 54, 55, 56, 57, 58, 59, 60, 61, 62, 63, 64, 65, 66, 67, 68, 69, 70, 71, 72, 73, 74, 75, 76, 77, 78, 79, 80, 1027, 1028, 1029, 1030, 1031, 1032, 1033, 1034, 1035, 1059, 1060, 1061, 1062, 1063, 1064, 1065, 1066, 1067, 1068, 1069, 1070, 1071, 1072, 1073, 1074, 1075, 1076, 1077, 1078, 1079, 1080, 1081, 1082, 1083, 1084, 1085, 1086, 1087, 1088, 1089, 1090, 1091, 1092, 1093, 1094, 1095] (by decide +kernel) (by decide +kernel)
set_option maxRecDepth 20000 in
theorem gL_law_X7_init : GoodIn wsL_law (wsX7_init) := ggL_law_X7_init
set_option maxRecDepth 20000 in
theorem ggL_law_X8_init : GoodIn wsL_law wsX8_init := goodIn_r _ [83, 84, 10, 11, 40, 85, 86, 87, 88, 89, 90, 91, 92, 93, 94, 95, 96, 97, 98, 99, 1036, 1037, 1038, 1039, 1040, 1041, 1042, 1043, 1044, 1045, 1046, 1047, 1048, 1049, 1050, 1051, 1052, 1053, 1054, 1055, 1056, 1057, 1058] (by decide +kernel) (by decide +kernel)
set_option maxRecDepth 20000 in
theorem gL_law_X8_init : GoodIn wsL_law (wsX8_init) := ggL_law_X8_init
set_option maxRecDepth 20000 in
theorem ggL_law_X7_row : GoodIn wsL_law wsX7_row := goodIn_r _ [103, 104, 13, 105, 106, 107, 2, 108, 109, 110, 111, 112, 113, 114, 115, 116, 117, 36, 118, 80, 119, 79, 120, 121, 122, 123, 1027, 1028, 1029, 1030, 1031, 1032, 1033, 1034, 1035, 1085, 1086, 1087] (by decide +kernel) (by decide +kernel)
set_option maxRecDepth 20000 in
theorem gL_law_X7_row : GoodIn wsL_law (wsV RL 13 RX7 yX7_row wsX7_row) := goodIn_app (goodIn_of _ (by decide +kernel)) ggL_law_X7_row
set_option maxRecDepth 20000 in
theorem ggL_law_X8_row : GoodIn wsL_law wsX8_row := goodIn_r _ [127, 128, 85, 86, 87, 129, 130, 5, 131, 132, 133, 134, 135, 136, 137, 138, 139, 140, 141, 142, 143, 144, 1036, 1037, 1038, 1039, 1040, 1041, 1042, 1043, 1044, 1045, 1046, 1047, 1048, 1049, 1050, 1051, 1052, 1053, 1054, 1055, 1056, 1057, 1058] (by decide +kernel) (by decide +kernel)
set_option maxRecDepth 20000 in
theorem gL_law_X8_row : GoodIn wsL_law (wsV RL 17 RX8 yX8_row wsX8_row) := goodIn_app (goodIn_of _ (by decide +kernel)) ggL_law_X8_row
set_option maxRecDepth 20000 in
theorem ggL_law_X7_set : GoodIn wsL_law wsX7_set := goodIn_r _ [148, 104, 13, 105, 106, 107, 2, 108, 149, 150, 151, 36, 152, 80, 153, 154, 155, 156, 119, 109, 110, 111, 112, 113, 114, 157, 158, 159, 160, 79, 120, 121, 122, 123, 1027, 1028, 1029, 1030, 1031, 1032, 1033, 1034, 1035, 1085, 1086, 1087] (by decide +kernel) (by decide +kernel)
set_option maxRecDepth 20000 in
theorem gL_law_X7_set : GoodIn wsL_law (wsV RL 18 RX7 yX7_set wsX7_set) := goodIn_app (goodIn_of _ (by decide +kernel)) ggL_law_X7_set
set_option maxRecDepth 20000 in
theorem ggL_law_X8_set : GoodIn wsL_law wsX8_set := goodIn_r _ [164, 128, 86, 87, 85, 129, 130, 5, 131, 132, 133, 134, 165, 166, 167, 168, 99, 135, 136, 137, 138, 139, 140, 169, 170, 171, 141, 142, 143, 144, 1036, 1037, 1038, 1039, 1040, 1041, 1042, 1043, 1044, 1045, 1046, 1047, 1048, 1049, 1050, 1051, 1052, 1053, 1054, 1055, 1056, 1057, 1058] (by decide +kernel) (by decide +kernel)
set_option maxRecDepth 20000 in
theorem gL_law_X8_set : GoodIn wsL_law (wsV RL 21 RX8 yX8_set wsX8_set) := goodIn_app (goodIn_of _ (by decide +kernel)) ggL_law_X8_set
set_option maxRecDepth 20000 in
theorem ggL_law_X7_copy : GoodIn wsL_law wsX7_copy := goodIn_r _ [175, 104, 13, 176, 177, 178, 179, 180, 181, 105, 106, 107, 2, 108, 109, 110, 111, 112, 113, 114, 182, 154, 155, 36, 156, 119, 120, 121, 122, 123, 1027, 1028, 1029, 1030, 1031, 1032, 1033, 1034, 1035, 1085, 1086, 1087] (by decide +kernel) (by decide +kernel)
set_option maxRecDepth 20000 in
theorem gL_law_X7_copy : GoodIn wsL_law (wsV RL 22 RX7 yX7_copy wsX7_copy) := goodIn_app (goodIn_of _ (by decide +kernel)) ggL_law_X7_copy
set_option maxRecDepth 20000 in
theorem ggL_law_X8_copy : GoodIn wsL_law wsX8_copy := goodIn_r _ [186, 128, 85, 88, 87, 129, 130, 5, 131, 132, 133, 134, 165, 166, 167, 168, 99, 135, 136, 137, 138, 139, 140, 187, 188, 189, 190, 86, 141, 142, 143, 144, 1036, 1037, 1038, 1039, 1040, 1041, 1042, 1043, 1044, 1045, 1046, 1047, 1048, 1049, 1050, 1051, 1052, 1053, 1054, 1055, 1056, 1057, 1058] (by decide +kernel) (by decide +kernel)
set_option maxRecDepth 20000 in
theorem gL_law_X8_copy : GoodIn wsL_law (wsV RL 26 RX8 yX8_copy wsX8_copy) := goodIn_app (goodIn_of _ (by decide +kernel)) ggL_law_X8_copy
set_option maxRecDepth 20000 in
theorem ggL_law_X7_drop : GoodIn wsL_law wsX7_drop := goodIn_r _ [194, 104, 13, 176, 195, 105, 106, 107, 2, 108, 109, 110, 111, 112, 113, 114, 120, 121, 122, 123, 1027, 1028, 1029, 1030, 1031, 1032, 1033, 1034, 1035, 1085, 1086, 1087] (by decide +kernel) (by decide +kernel)
set_option maxRecDepth 20000 in
theorem gL_law_X7_drop : GoodIn wsL_law (wsV RL 27 RX7 yX7_drop wsX7_drop) := goodIn_app (goodIn_of _ (by decide +kernel)) ggL_law_X7_drop
set_option maxRecDepth 20000 in
theorem ggL_law_X8_drop : GoodIn wsL_law wsX8_drop := goodIn_r _ [199, 128, 85, 99, 86, 129, 130, 5, 131, 132, 133, 134, 165, 166, 167, 168, 135, 136, 137, 138, 139, 140, 141, 142, 143, 144, 1036, 1037, 1038, 1039, 1040, 1041, 1042, 1043, 1044, 1045, 1046, 1047, 1048, 1049, 1050, 1051, 1052, 1053, 1054, 1055, 1056, 1057, 1058] (by decide +kernel) (by decide +kernel)
set_option maxRecDepth 20000 in
theorem gL_law_X8_drop : GoodIn wsL_law (wsV RL 31 RX8 yX8_drop wsX8_drop) := goodIn_app (goodIn_of _ (by decide +kernel)) ggL_law_X8_drop
set_option maxRecDepth 20000 in
theorem ggL_law_X7_feed : GoodIn wsL_law wsX7_feed := goodIn_r _ [203, 104, 17, 204, 205, 206, 207, 208, 16, 209, 210, 41, 1027, 1028, 1029, 1030, 1031, 1032, 1033, 1034, 1035, 1059, 1060, 1061, 1062, 1063, 1064, 1065] (by decide +kernel) (by decide +kernel)
set_option maxRecDepth 20000 in
theorem gL_law_X7_feed : GoodIn wsL_law (wsV RL 32 RX7 yX7_feed wsX7_feed) := goodIn_app (goodIn_of _ (by decide +kernel)) ggL_law_X7_feed
set_option maxRecDepth 20000 in
theorem ggL_law_X8_feed : GoodIn wsL_law wsX8_feed := goodIn_r _ [214, 128, 215, 216, 89, 132, 133, 5, 134, 1036, 1037, 1038, 1039, 1040, 1041, 1042, 1043, 1044, 1045, 1046, 1047, 1048, 1049, 1050, 1051, 1052, 1053, 1054, 1055, 1056, 1057, 1058] (by decide +kernel) (by decide +kernel)
set_option maxRecDepth 20000 in
theorem gL_law_X8_feed : GoodIn wsL_law (wsV RL 35 RX8 yX8_feed wsX8_feed) := goodIn_app (goodIn_of _ (by decide +kernel)) ggL_law_X8_feed
set_option maxRecDepth 20000 in
theorem ggL_law_X7_gate : GoodIn wsL_law wsX7_gate := goodIn_r _ [220, 17, 204, 221, 222, 223, 224, 21, 225, 25, 226, 227, 228, 229, 16, 230, 231, 43, 232, 233, 234, 235, 236, 237, 238, 239, 240, 241, 242, 243, 244, 245, 246, 247, 248, 249, 250, 210, 41, 251, 252, 253, 254, 255, 256, 257, 258, 259, 260, 261, 262, 263, 264, 265, 266, 267, 268, 269, 270, 271, 272, 273, 274, 275, 20, 276, 47, 277, 278, 279, 280, 281, 282, 283, 284, 285, 286, 287, 288, 289, 52, 290, 291, 292, 293, 57, 294, 295, 296, 297, 298, 179, 180, 181, 48, 49, 53, 299, 300, 301, 302, 303, 304, 305, 306, 307, 308, 58, 59, 60, 309, 310, 311, 24, 312, 313, 1027, 1028, 1029, 1030, 1031, 1032, 1033, 1034, 1035, 1059, 1060, 1061, 1062, 1063, 1064, 1065, 1066, 1067, 1068, 1069, 1070, 1071, 1072, 1073, 1088, 1089, 1090, 1091, 1092, 1093, 1094, 1095, 1074, 1075, 1076] (by decide +kernel) (by decide +kernel)
set_option maxRecDepth 20000 in
theorem gL_law_X7_gate : GoodIn wsL_law (wsV RL 36 RX7 yX7_gate wsX7_gate) := goodIn_app (goodIn_of _ (by decide +kernel)) ggL_law_X7_gate
set_option maxRecDepth 20000 in
theorem ggL_law_X8_gate : GoodIn wsL_law wsX8_gate := goodIn_r _ [317, 91, 318, 319, 320, 321, 215, 322, 90, 323, 324, 325, 326, 5, 327, 328, 329, 330, 331, 332, 89, 132, 133, 134, 333, 334, 335, 336, 337, 338, 339, 340, 341, 342, 343, 344, 345, 346, 347, 348, 349, 350, 351, 352, 353, 354, 355, 356, 357, 358, 359, 360, 361, 362, 363, 364, 365, 366, 367, 368, 369, 370, 371, 372, 373, 374, 375, 1036, 1037, 1038, 1039, 1040, 1041, 1042, 1043, 1044, 1045, 1046, 1047, 1048, 1049, 1050, 1051, 1052, 1053, 1054, 1055, 1056, 1057, 1058] (by decide +kernel) (by decide +kernel)
set_option maxRecDepth 20000 in
theorem gL_law_X8_gate : GoodIn wsL_law (wsV RL 40 RX8 yX8_gate wsX8_gate) := goodIn_app (goodIn_of _ (by decide +kernel)) ggL_law_X8_gate
set_option maxRecDepth 20000 in
theorem ggL_law_X7_fault : GoodIn wsL_law wsX7_fault := goodIn_r _ [379, 222, 1027, 1028, 1029, 1030, 1031, 1032, 1033, 1034, 1035] (by decide +kernel) (by decide +kernel)
set_option maxRecDepth 20000 in
theorem gL_law_X7_fault : GoodIn wsL_law (wsV RL 41 RX7 yX7_fault wsX7_fault) := goodIn_app (goodIn_of _ (by decide +kernel)) ggL_law_X7_fault
set_option maxRecDepth 20000 in
theorem ggL_law_X8_fault : GoodIn wsL_law wsX8_fault := goodIn_r _ [383, 337, 1036, 1037, 1038, 1039, 1040, 1041, 1042, 1043, 1044, 1045, 1046, 1047, 1048, 1049, 1050, 1051, 1052, 1053, 1054, 1055, 1056, 1057, 1058] (by decide +kernel) (by decide +kernel)
set_option maxRecDepth 20000 in
theorem gL_law_X8_fault : GoodIn wsL_law (wsV RL 44 RX8 yX8_fault wsX8_fault) := goodIn_app (goodIn_of _ (by decide +kernel)) ggL_law_X8_fault
set_option maxRecDepth 20000 in
theorem ggL_law_X7_nights : GoodIn wsL_law wsX7_nights := goodIn_r _ [387, 388, 104, 21, 389, 390, 205, 25, 391, 392, 393, 2, 394, 226, 395, 396, 397, 24, 398, 66, 399, 313, 400, 401, 402, 403, 404, 304, 305, 52, 306, 291, 307, 292, 293, 57, 308, 179, 180, 181, 58, 59, 60, 405, 406, 407, 408, 409, 410, 411, 20, 412, 53, 413, 299, 300, 414, 415, 416, 417, 418, 301, 419, 420, 1027, 1028, 1029, 1030, 1031, 1032, 1033, 1034, 1035, 1066, 1067, 1068, 1069, 1070, 1071, 1072, 1073, 1088, 1089, 1090, 1091, 1092, 1093, 1094, 1095, 1074, 1075, 1076] (by decide +kernel) (by decide +kernel)
set_option maxRecDepth 20000 in
theorem gL_law_X7_nights : GoodIn wsL_law (wsV RL 45 RX7 yX7_nights wsX7_nights) := goodIn_app (goodIn_of _ (by decide +kernel)) ggL_law_X7_nights
set_option maxRecDepth 20000 in
theorem ggL_law_X8_nights : GoodIn wsL_law wsX8_nights := goodIn_r _ [424, 425, 128, 90, 216, 426, 427, 428, 5, 429, 132, 133, 134, 430, 431, 432, 433, 323, 93, 373, 374, 375, 434, 435, 436, 437, 438, 439, 440, 1036, 1037, 1038, 1039, 1040, 1041, 1042, 1043, 1044, 1045, 1046, 1047, 1048, 1049, 1050, 1051, 1052, 1053, 1054, 1055, 1056, 1057, 1058] (by decide +kernel) (by decide +kernel)
set_option maxRecDepth 20000 in
theorem gL_law_X8_nights : GoodIn wsL_law (wsV RL 48 RX8 yX8_nights wsX8_nights) := goodIn_app (goodIn_of _ (by decide +kernel)) ggL_law_X8_nights
set_option maxRecDepth 20000 in
theorem ggL_law_X7_say : GoodIn wsL_law wsX7_say := goodIn_r _ [444, 104, 21, 389, 445, 205, 390, 25, 446, 447, 448, 449, 2, 450, 226, 451, 452, 453, 454, 455, 456, 457, 20, 458, 302, 419, 420, 459, 460, 461, 462, 53, 414, 463, 410, 411, 412, 413, 299, 300, 415, 416, 417, 418, 301, 464, 465, 466, 467, 48, 468, 469, 470, 471, 472, 473, 474, 475, 476, 477, 478, 274, 275, 276, 47, 479, 480, 481, 482, 395, 396, 397, 24, 398, 66, 399, 313, 400, 401, 402, 403, 404, 304, 305, 52, 306, 291, 307, 292, 293, 57, 308, 179, 180, 181, 58, 59, 60, 483, 484, 485, 486, 487, 488, 489, 490, 1027, 1028, 1029, 1030, 1031, 1032, 1033, 1034, 1035, 1066, 1067, 1068, 1069, 1070, 1071, 1072, 1073, 1088, 1089, 1090, 1091, 1092, 1093, 1094, 1095, 1074, 1075, 1076] (by decide +kernel) (by decide +kernel)
set_option maxRecDepth 20000 in
theorem gL_law_X7_say : GoodIn wsL_law (wsV RL 49 RX7 yX7_say wsX7_say) := goodIn_app (goodIn_of _ (by decide +kernel)) ggL_law_X7_say
set_option maxRecDepth 20000 in
theorem ggL_law_X8_say : GoodIn wsL_law wsX8_say := goodIn_r _ [494, 128, 90, 216, 495, 496, 497, 5, 498, 132, 133, 134, 499, 500, 501, 430, 431, 432, 433, 323, 93, 373, 374, 375, 502, 503, 504, 505, 506, 507, 508, 509, 438, 439, 440, 510, 511, 512, 513, 514, 515, 516, 517, 518, 519, 520, 521, 522, 523, 524, 525, 526, 527, 528, 529, 530, 531, 532, 1036, 1037, 1038, 1039, 1040, 1041, 1042, 1043, 1044, 1045, 1046, 1047, 1048, 1049, 1050, 1051, 1052, 1053, 1054, 1055, 1056, 1057, 1058] (by decide +kernel) (by decide +kernel)
set_option maxRecDepth 20000 in
theorem gL_law_X8_say : GoodIn wsL_law (wsV RL 53 RX8 yX8_say wsX8_say) := goodIn_app (goodIn_of _ (by decide +kernel)) ggL_law_X8_say
set_option maxRecDepth 20000 in
theorem ggL_law_X7_start : GoodIn wsL_law wsX7_start := goodIn_r _ [536, 388, 104, 21, 389, 537, 25, 391, 392, 393, 2, 394, 226, 395, 396, 397, 24, 398, 66, 399, 313, 400, 401, 402, 403, 404, 304, 305, 52, 306, 291, 307, 292, 293, 57, 308, 179, 180, 181, 58, 59, 60, 1027, 1028, 1029, 1030, 1031, 1032, 1033, 1034, 1035, 1066, 1067, 1068, 1069, 1070, 1071, 1072, 1073, 1088, 1089, 1090, 1091, 1092, 1093, 1094, 1095, 1074, 1075, 1076] (by decide +kernel) (by decide +kernel)
set_option maxRecDepth 20000 in
theorem gL_law_X7_start : GoodIn wsL_law (wsV RL 54 RX7 yX7_start wsX7_start) := goodIn_app (goodIn_of _ (by decide +kernel)) ggL_law_X7_start
set_option maxRecDepth 20000 in
theorem ggL_law_X8_start : GoodIn wsL_law wsX8_start := goodIn_r _ [541, 425, 128, 90, 426, 427, 428, 5, 429, 132, 133, 134, 430, 431, 432, 433, 323, 93, 373, 374, 375, 1036, 1037, 1038, 1039, 1040, 1041, 1042, 1043, 1044, 1045, 1046, 1047, 1048, 1049, 1050, 1051, 1052, 1053, 1054, 1055, 1056, 1057, 1058] (by decide +kernel) (by decide +kernel)
set_option maxRecDepth 20000 in
theorem gL_law_X8_start : GoodIn wsL_law (wsV RL 57 RX8 yX8_start wsX8_start) := goodIn_app (goodIn_of _ (by decide +kernel)) ggL_law_X8_start
set_option maxRecDepth 20000 in
theorem ggL_law_X7_dismiss : GoodIn wsL_law wsX7_dismiss := goodIn_r _ [545, 104, 21, 388, 25, 389, 546, 547, 548, 549, 2, 550, 551, 483, 470, 471, 20, 472, 53, 473, 490, 488, 489, 395, 396, 397, 24, 398, 66, 399, 313, 400, 401, 402, 403, 404, 304, 305, 52, 306, 291, 307, 292, 293, 57, 308, 179, 180, 181, 58, 59, 60, 1027, 1028, 1029, 1030, 1031, 1032, 1033, 1034, 1035, 1066, 1067, 1068, 1069, 1070, 1071, 1072, 1073, 1088, 1089, 1090, 1091, 1092, 1093, 1094, 1095, 1074, 1075, 1076] (by decide +kernel) (by decide +kernel)
set_option maxRecDepth 20000 in
theorem gL_law_X7_dismiss : GoodIn wsL_law (wsV RL 58 RX7 yX7_dismiss wsX7_dismiss) := goodIn_app (goodIn_of _ (by decide +kernel)) ggL_law_X7_dismiss
set_option maxRecDepth 20000 in
theorem ggL_law_X8_dismiss : GoodIn wsL_law wsX8_dismiss := goodIn_r _ [555, 128, 90, 425, 556, 557, 558, 5, 559, 132, 133, 134, 430, 431, 432, 433, 323, 93, 373, 374, 375, 1036, 1037, 1038, 1039, 1040, 1041, 1042, 1043, 1044, 1045, 1046, 1047, 1048, 1049, 1050, 1051, 1052, 1053, 1054, 1055, 1056, 1057, 1058] (by decide +kernel) (by decide +kernel)
set_option maxRecDepth 20000 in
theorem gL_law_X8_dismiss : GoodIn wsL_law (wsV RL 61 RX8 yX8_dismiss wsX8_dismiss) := goodIn_app (goodIn_of _ (by decide +kernel)) ggL_law_X8_dismiss
set_option maxRecDepth 20000 in
theorem ggL_law_X7_undo : GoodIn wsL_law wsX7_undo := goodIn_r _ [563, 25, 21, 389, 564, 388, 565, 566, 567, 24, 568, 313, 399, 66, 404, 304, 305, 52, 306, 291, 307, 292, 293, 57, 308, 179, 180, 181, 58, 59, 60, 1027, 1028, 1029, 1030, 1031, 1032, 1033, 1034, 1035, 1066, 1067, 1068, 1069, 1070, 1071, 1072, 1073, 1074, 1075, 1076, 1088, 1089, 1090, 1091, 1092, 1093, 1094, 1095] (by decide +kernel) (by decide +kernel)
set_option maxRecDepth 20000 in
theorem gL_law_X7_undo : GoodIn wsL_law (wsV RL 62 RX7 yX7_undo wsX7_undo) := goodIn_app (goodIn_of _ (by decide +kernel)) ggL_law_X7_undo
set_option maxRecDepth 20000 in
theorem ggL_law_X8_undo : GoodIn wsL_law wsX8_undo := goodIn_r _ [572, 323, 425, 93, 90, 373, 374, 5, 375, 1036, 1037, 1038, 1039, 1040, 1041, 1042, 1043, 1044, 1045, 1046, 1047, 1048, 1049, 1050, 1051, 1052, 1053, 1054, 1055, 1056, 1057, 1058] (by decide +kernel) (by decide +kernel)
set_option maxRecDepth 20000 in
theorem gL_law_X8_undo : GoodIn wsL_law (wsV RL 65 RX8 yX8_undo wsX8_undo) := goodIn_app (goodIn_of _ (by decide +kernel)) ggL_law_X8_undo
set_option maxRecDepth 20000 in
theorem ggL_law_X7_letter : GoodIn wsL_law wsX7_letter := goodIn_r _ [576, 104, 21, 577, 447, 448, 449, 2, 450, 226, 1027, 1028, 1029, 1030, 1031, 1032, 1033, 1034, 1035, 1066, 1067, 1068, 1069, 1070, 1071, 1072, 1073] (by decide +kernel) (by decide +kernel)
set_option maxRecDepth 20000 in
theorem gL_law_X7_letter : GoodIn wsL_law (wsV RL 66 RX7 yX7_letter wsX7_letter) := goodIn_app (goodIn_of _ (by decide +kernel)) ggL_law_X7_letter
set_option maxRecDepth 20000 in
theorem ggL_law_X8_letter : GoodIn wsL_law wsX8_letter := goodIn_r _ [581, 90, 128, 495, 496, 497, 5, 498, 132, 133, 134, 1036, 1037, 1038, 1039, 1040, 1041, 1042, 1043, 1044, 1045, 1046, 1047, 1048, 1049, 1050, 1051, 1052, 1053, 1054, 1055, 1056, 1057, 1058] (by decide +kernel) (by decide +kernel)
set_option maxRecDepth 20000 in
theorem gL_law_X8_letter : GoodIn wsL_law (wsV RL 69 RX8 yX8_letter wsX8_letter) := goodIn_app (goodIn_of _ (by decide +kernel)) ggL_law_X8_letter
set_option maxRecDepth 20000 in
theorem ggL_law_X7_like : GoodIn wsL_law wsX7_like := goodIn_r _ [585, 104, 21, 447, 448, 449, 2, 450, 226, 586, 274, 275, 20, 276, 47, 587, 480, 481, 482, 1027, 1028, 1029, 1030, 1031, 1032, 1033, 1034, 1035, 1066, 1067, 1068, 1069, 1070, 1071, 1072, 1073] (by decide +kernel) (by decide +kernel)
set_option maxRecDepth 20000 in
theorem gL_law_X7_like : GoodIn wsL_law (wsV RL 70 RX7 yX7_like wsX7_like) := goodIn_app (goodIn_of _ (by decide +kernel)) ggL_law_X7_like
set_option maxRecDepth 20000 in
theorem ggL_law_X8_like : GoodIn wsL_law wsX8_like := goodIn_r _ [591, 128, 495, 496, 497, 5, 498, 90, 132, 133, 134, 525, 526, 527, 528, 529, 530, 531, 532, 1036, 1037, 1038, 1039, 1040, 1041, 1042, 1043, 1044, 1045, 1046, 1047, 1048, 1049, 1050, 1051, 1052, 1053, 1054, 1055, 1056, 1057, 1058] (by decide +kernel) (by decide +kernel)
set_option maxRecDepth 20000 in
theorem gL_law_X8_like : GoodIn wsL_law (wsV RL 73 RX8 yX8_like wsX8_like) := goodIn_app (goodIn_of _ (by decide +kernel)) ggL_law_X8_like
set_option maxRecDepth 20000 in
theorem ggL_law_X7_guard : GoodIn wsL_law wsX7_guard := goodIn_r _ [595, 104, 21, 596, 389, 597, 547, 548, 549, 2, 550, 551, 483, 470, 471, 20, 472, 53, 473, 490, 488, 489, 598, 599, 600, 601, 414, 468, 456, 457, 458, 302, 419, 420, 1027, 1028, 1029, 1030, 1031, 1032, 1033, 1034, 1035, 1066, 1067, 1068, 1069, 1070, 1071, 1072, 1073, 1088, 1089, 1090, 1091, 1092, 1093, 1094, 1095] (by decide +kernel) (by decide +kernel)
set_option maxRecDepth 20000 in
theorem gL_law_X7_guard : GoodIn wsL_law (wsV RL 74 RX7 yX7_guard wsX7_guard) := goodIn_app (goodIn_of _ (by decide +kernel)) ggL_law_X7_guard
set_option maxRecDepth 20000 in
theorem ggL_law_X8_guard : GoodIn wsL_law wsX8_guard := goodIn_r _ [605, 128, 90, 556, 557, 558, 5, 559, 132, 133, 134, 606, 607, 608, 609, 502, 503, 504, 505, 1036, 1037, 1038, 1039, 1040, 1041, 1042, 1043, 1044, 1045, 1046, 1047, 1048, 1049, 1050, 1051, 1052, 1053, 1054, 1055, 1056, 1057, 1058] (by decide +kernel) (by decide +kernel)
set_option maxRecDepth 20000 in
theorem gL_law_X8_guard : GoodIn wsL_law (wsV RL 77 RX8 yX8_guard wsX8_guard) := goodIn_app (goodIn_of _ (by decide +kernel)) ggL_law_X8_guard
set_option maxRecDepth 20000 in
theorem ggL_law_X7_tried : GoodIn wsL_law wsX7_tried := goodIn_r _ [613, 21, 389, 445, 104, 614, 615, 616, 1027, 1028, 1029, 1030, 1031, 1032, 1033, 1034, 1035, 1066, 1067, 1068, 1069, 1070, 1071, 1072, 1073, 1088, 1089, 1090, 1091, 1092, 1093, 1094, 1095] (by decide +kernel) (by decide +kernel)
set_option maxRecDepth 20000 in
theorem gL_law_X7_tried : GoodIn wsL_law (wsV RL 78 RX7 yX7_tried wsX7_tried) := goodIn_app (goodIn_of _ (by decide +kernel)) ggL_law_X7_tried
set_option maxRecDepth 20000 in
theorem ggL_law_X8_tried : GoodIn wsL_law wsX8_tried := goodIn_r _ [620, 90, 128, 99, 132, 133, 5, 134, 1036, 1037, 1038, 1039, 1040, 1041, 1042, 1043, 1044, 1045, 1046, 1047, 1048, 1049, 1050, 1051, 1052, 1053, 1054, 1055, 1056, 1057, 1058] (by decide +kernel) (by decide +kernel)
set_option maxRecDepth 20000 in
theorem gL_law_X8_tried : GoodIn wsL_law (wsV RL 81 RX8 yX8_tried wsX8_tried) := goodIn_app (goodIn_of _ (by decide +kernel)) ggL_law_X8_tried
set_option maxRecDepth 20000 in
theorem ggL_law_X7_secret : GoodIn wsL_law wsX7_secret := goodIn_r _ [624, 388, 21, 104, 391, 392, 393, 2, 394, 226, 625, 626, 627, 628, 409, 410, 411, 20, 412, 53, 413, 299, 300, 414, 415, 416, 417, 418, 301, 419, 420, 1027, 1028, 1029, 1030, 1031, 1032, 1033, 1034, 1035, 1066, 1067, 1068, 1069, 1070, 1071, 1072, 1073, 1088, 1089, 1090, 1091, 1092, 1093, 1094, 1095] (by decide +kernel) (by decide +kernel)
set_option maxRecDepth 20000 in
theorem gL_law_X7_secret : GoodIn wsL_law (wsV RL 82 RX7 yX7_secret wsX7_secret) := goodIn_app (goodIn_of _ (by decide +kernel)) ggL_law_X7_secret
set_option maxRecDepth 20000 in
theorem ggL_law_X8_secret : GoodIn wsL_law wsX8_secret := goodIn_r _ [632, 425, 90, 128, 426, 427, 428, 5, 429, 633, 634, 635, 132, 133, 134, 438, 439, 440, 1036, 1037, 1038, 1039, 1040, 1041, 1042, 1043, 1044, 1045, 1046, 1047, 1048, 1049, 1050, 1051, 1052, 1053, 1054, 1055, 1056, 1057, 1058] (by decide +kernel) (by decide +kernel)
set_option maxRecDepth 20000 in
theorem gL_law_X8_secret : GoodIn wsL_law (wsV RL 85 RX8 yX8_secret wsX8_secret) := goodIn_app (goodIn_of _ (by decide +kernel)) ggL_law_X8_secret
set_option maxRecDepth 20000 in
theorem ggL_law_X7_taken : GoodIn wsL_law wsX7_taken := goodIn_r _ [639, 104, 21, 447, 448, 449, 2, 450, 226, 451, 452, 453, 454, 625, 626, 627, 628, 459, 460, 461, 20, 462, 53, 414, 463, 410, 411, 412, 413, 299, 300, 415, 416, 417, 418, 301, 419, 420, 464, 465, 466, 467, 48, 468, 456, 457, 458, 302, 469, 470, 471, 472, 473, 474, 475, 476, 477, 478, 274, 275, 276, 47, 479, 480, 481, 482, 490, 488, 489, 1027, 1028, 1029, 1030, 1031, 1032, 1033, 1034, 1035, 1066, 1067, 1068, 1069, 1070, 1071, 1072, 1073, 1088, 1089, 1090, 1091, 1092, 1093, 1094, 1095] (by decide +kernel) (by decide +kernel)
set_option maxRecDepth 20000 in
theorem gL_law_X7_taken : GoodIn wsL_law (wsV RL 86 RX7 yX7_taken wsX7_taken) := goodIn_app (goodIn_of _ (by decide +kernel)) ggL_law_X7_taken
set_option maxRecDepth 20000 in
theorem ggL_law_X8_taken : GoodIn wsL_law wsX8_taken := goodIn_r _ [643, 128, 495, 496, 497, 5, 498, 90, 132, 133, 134, 499, 500, 501, 633, 634, 635, 506, 507, 508, 509, 438, 439, 440, 510, 511, 512, 513, 502, 503, 504, 505, 514, 515, 516, 517, 518, 519, 520, 521, 522, 523, 524, 525, 526, 527, 528, 529, 530, 531, 532, 1036, 1037, 1038, 1039, 1040, 1041, 1042, 1043, 1044, 1045, 1046, 1047, 1048, 1049, 1050, 1051, 1052, 1053, 1054, 1055, 1056, 1057, 1058] (by decide +kernel) (by decide +kernel)
set_option maxRecDepth 20000 in
theorem gL_law_X8_taken : GoodIn wsL_law (wsV RL 89 RX8 yX8_taken wsX8_taken) := goodIn_app (goodIn_of _ (by decide +kernel)) ggL_law_X8_taken
set_option maxRecDepth 20000 in
theorem ggL_law_X7_safe : GoodIn wsL_law wsX7_safe := goodIn_r _ [647, 388, 21, 104, 391, 392, 393, 2, 394, 226, 451, 452, 453, 454, 625, 626, 627, 628, 648, 649, 650, 20, 651, 301, 652, 460, 461, 462, 53, 414, 463, 410, 411, 412, 413, 299, 300, 415, 416, 417, 418, 419, 420, 464, 465, 466, 467, 48, 468, 456, 457, 458, 302, 469, 470, 471, 472, 473, 474, 475, 476, 477, 478, 274, 275, 276, 47, 479, 480, 481, 482, 488, 489, 1027, 1028, 1029, 1030, 1031, 1032, 1033, 1034, 1035, 1066, 1067, 1068, 1069, 1070, 1071, 1072, 1073, 1088, 1089, 1090, 1091, 1092, 1093, 1094, 1095] (by decide +kernel) (by decide +kernel)
set_option maxRecDepth 20000 in
theorem gL_law_X7_safe : GoodIn wsL_law (wsV RL 90 RX7 yX7_safe wsX7_safe) := goodIn_app (goodIn_of _ (by decide +kernel)) ggL_law_X7_safe
set_option maxRecDepth 20000 in
theorem ggL_law_X8_safe : GoodIn wsL_law wsX8_safe := goodIn_r _ [656, 425, 128, 90, 426, 427, 428, 5, 429, 499, 500, 501, 132, 133, 134, 633, 634, 635, 506, 507, 508, 509, 438, 439, 440, 510, 511, 512, 513, 502, 503, 504, 505, 514, 515, 516, 517, 518, 519, 520, 521, 522, 523, 524, 525, 526, 527, 528, 529, 530, 531, 532, 1036, 1037, 1038, 1039, 1040, 1041, 1042, 1043, 1044, 1045, 1046, 1047, 1048, 1049, 1050, 1051, 1052, 1053, 1054, 1055, 1056, 1057, 1058] (by decide +kernel) (by decide +kernel)
set_option maxRecDepth 20000 in
theorem gL_law_X8_safe : GoodIn wsL_law (wsV RL 93 RX8 yX8_safe wsX8_safe) := goodIn_app (goodIn_of _ (by decide +kernel)) ggL_law_X8_safe
set_option maxRecDepth 20000 in
theorem ggL_law_X7_open : GoodIn wsL_law wsX7_open := goodIn_r _ [660, 388, 21, 104, 391, 392, 393, 2, 394, 226, 661, 662, 663, 664, 625, 626, 627, 628, 665, 666, 667, 20, 668, 669, 649, 650, 651, 301, 652, 460, 461, 462, 53, 414, 463, 410, 411, 412, 413, 299, 300, 415, 416, 417, 418, 419, 420, 464, 465, 466, 467, 48, 468, 456, 457, 458, 302, 469, 470, 471, 472, 473, 474, 475, 476, 477, 478, 274, 275, 276, 47, 479, 480, 481, 482, 488, 489, 1027, 1028, 1029, 1030, 1031, 1032, 1033, 1034, 1035, 1066, 1067, 1068, 1069, 1070, 1071, 1072, 1073, 1088, 1089, 1090, 1091, 1092, 1093, 1094, 1095] (by decide +kernel) (by decide +kernel)
set_option maxRecDepth 20000 in
theorem gL_law_X7_open : GoodIn wsL_law (wsV RL 94 RX7 yX7_open wsX7_open) := goodIn_app (goodIn_of _ (by decide +kernel)) ggL_law_X7_open
set_option maxRecDepth 20000 in
theorem ggL_law_X8_open : GoodIn wsL_law wsX8_open := goodIn_r _ [673, 425, 128, 90, 426, 427, 428, 5, 429, 674, 675, 676, 677, 132, 133, 134, 633, 634, 635, 678, 679, 680, 681, 514, 515, 516, 438, 439, 440, 510, 511, 512, 513, 502, 503, 504, 505, 517, 518, 519, 520, 521, 522, 523, 524, 525, 526, 527, 528, 529, 530, 531, 532, 1036, 1037, 1038, 1039, 1040, 1041, 1042, 1043, 1044, 1045, 1046, 1047, 1048, 1049, 1050, 1051, 1052, 1053, 1054, 1055, 1056, 1057, 1058] (by decide +kernel) (by decide +kernel)
set_option maxRecDepth 20000 in
theorem gL_law_X8_open : GoodIn wsL_law (wsV RL 97 RX8 yX8_open wsX8_open) := goodIn_app (goodIn_of _ (by decide +kernel)) ggL_law_X8_open
set_option maxRecDepth 20000 in
theorem ggL_law_X7_next : GoodIn wsL_law wsX7_next := goodIn_r _ [685, 21, 104, 447, 448, 449, 2, 450, 226, 686, 687, 688, 20, 689, 690, 463, 410, 411, 412, 53, 413, 299, 300, 414, 415, 416, 417, 418, 301, 419, 420, 1027, 1028, 1029, 1030, 1031, 1032, 1033, 1034, 1035, 1066, 1067, 1068, 1069, 1070, 1071, 1072, 1073, 1088, 1089, 1090, 1091, 1092, 1093, 1094, 1095] (by decide +kernel) (by decide +kernel)
set_option maxRecDepth 20000 in
theorem gL_law_X7_next : GoodIn wsL_law (wsV RL 98 RX7 yX7_next wsX7_next) := goodIn_app (goodIn_of _ (by decide +kernel)) ggL_law_X7_next
set_option maxRecDepth 20000 in
theorem ggL_law_X8_next : GoodIn wsL_law wsX8_next := goodIn_r _ [694, 128, 90, 99, 495, 496, 497, 5, 498, 132, 133, 134, 438, 439, 440, 1036, 1037, 1038, 1039, 1040, 1041, 1042, 1043, 1044, 1045, 1046, 1047, 1048, 1049, 1050, 1051, 1052, 1053, 1054, 1055, 1056, 1057, 1058] (by decide +kernel) (by decide +kernel)
set_option maxRecDepth 20000 in
theorem gL_law_X8_next : GoodIn wsL_law (wsV RL 101 RX8 yX8_next wsX8_next) := goodIn_app (goodIn_of _ (by decide +kernel)) ggL_law_X8_next
set_option maxRecDepth 20000 in
theorem ggL_law_X7_agree : GoodIn wsL_law wsX7_agree := goodIn_r _ [698, 388, 21, 391, 392, 393, 2, 394, 226, 699, 700, 29, 701, 702, 703, 704, 705, 706, 707, 708, 709, 710, 711, 712, 713, 714, 475, 476, 20, 477, 478, 274, 275, 276, 47, 479, 480, 481, 482, 488, 489, 1027, 1028, 1029, 1030, 1031, 1032, 1033, 1034, 1035, 1066, 1067, 1068, 1069, 1070, 1071, 1072, 1073, 1088, 1089, 1090, 1091, 1092, 1093, 1094, 1095] (by decide +kernel) (by decide +kernel)
set_option maxRecDepth 20000 in
theorem gL_law_X7_agree : GoodIn wsL_law (wsV RL 102 RX7 yX7_agree wsX7_agree) := goodIn_app (goodIn_of _ (by decide +kernel)) ggL_law_X7_agree
set_option maxRecDepth 20000 in
theorem ggL_law_X8_agree : GoodIn wsL_law wsX8_agree := goodIn_r _ [718, 425, 426, 427, 428, 5, 429, 90, 719, 720, 721, 722, 517, 518, 519, 520, 521, 522, 523, 524, 525, 526, 527, 528, 529, 530, 531, 532, 1036, 1037, 1038, 1039, 1040, 1041, 1042, 1043, 1044, 1045, 1046, 1047, 1048, 1049, 1050, 1051, 1052, 1053, 1054, 1055, 1056, 1057, 1058] (by decide +kernel) (by decide +kernel)
set_option maxRecDepth 20000 in
theorem gL_law_X8_agree : GoodIn wsL_law (wsV RL 105 RX8 yX8_agree wsX8_agree) := goodIn_app (goodIn_of _ (by decide +kernel)) ggL_law_X8_agree
set_option maxRecDepth 20000 in
theorem ggL_law_X7_man : GoodIn wsL_law wsX7_man := goodIn_r _ [726, 388, 104, 21, 391, 392, 393, 2, 394, 226, 699, 700, 29, 701, 702, 703, 704, 705, 706, 707, 708, 709, 710, 711, 712, 713, 714, 475, 476, 20, 477, 478, 274, 275, 276, 47, 479, 480, 481, 482, 488, 489, 727, 728, 729, 730, 731, 732, 733, 734, 402, 735, 736, 737, 738, 739, 465, 466, 467, 48, 468, 456, 457, 458, 302, 419, 420, 469, 470, 471, 472, 53, 473, 474, 740, 741, 742, 743, 744, 745, 746, 747, 1027, 1028, 1029, 1030, 1031, 1032, 1033, 1034, 1035, 1066, 1067, 1068, 1069, 1070, 1071, 1072, 1073, 1088, 1089, 1090, 1091, 1092, 1093, 1094, 1095] (by decide +kernel) (by decide +kernel)
set_option maxRecDepth 20000 in
theorem gL_law_X7_man : GoodIn wsL_law (wsV RL 106 RX7 yX7_man wsX7_man) := goodIn_app (goodIn_of _ (by decide +kernel)) ggL_law_X7_man
set_option maxRecDepth 20000 in
theorem ggL_law_X8_man : GoodIn wsL_law wsX8_man := goodIn_r _ [751, 425, 128, 90, 426, 427, 428, 5, 429, 132, 133, 134, 719, 720, 721, 722, 517, 518, 519, 520, 521, 522, 523, 524, 525, 526, 527, 528, 529, 530, 531, 532, 752, 753, 754, 755, 756, 757, 758, 514, 515, 516, 510, 511, 512, 513, 502, 503, 504, 505, 1036, 1037, 1038, 1039, 1040, 1041, 1042, 1043, 1044, 1045, 1046, 1047, 1048, 1049, 1050, 1051, 1052, 1053, 1054, 1055, 1056, 1057, 1058] (by decide +kernel) (by decide +kernel)
set_option maxRecDepth 20000 in
theorem gL_law_X8_man : GoodIn wsL_law (wsV RL 109 RX8 yX8_man wsX8_man) := goodIn_app (goodIn_of _ (by decide +kernel)) ggL_law_X8_man
set_option maxRecDepth 20000 in
theorem ggL_law_X7_fewest : GoodIn wsL_law wsX7_fewest := goodIn_r _ [762, 388, 30, 21, 391, 392, 393, 2, 394, 226, 699, 700, 29, 701, 702, 703, 704, 705, 706, 707, 708, 709, 710, 711, 712, 713, 714, 475, 476, 20, 477, 478, 274, 275, 276, 47, 479, 480, 481, 482, 488, 489, 763, 764, 765, 766, 70, 71, 767, 736, 737, 738, 739, 465, 466, 467, 48, 468, 456, 457, 458, 302, 419, 420, 469, 470, 471, 472, 53, 473, 474, 740, 741, 742, 743, 744, 745, 746, 768, 769, 770, 771, 733, 734, 402, 735, 772, 401, 403, 1027, 1028, 1029, 1030, 1031, 1032, 1033, 1034, 1035, 1066, 1067, 1068, 1069, 1070, 1071, 1072, 1073, 1088, 1089, 1090, 1091, 1092, 1093, 1094, 1095, 1077, 1078] (by decide +kernel) (by decide +kernel)
set_option maxRecDepth 20000 in
theorem gL_law_X7_fewest : GoodIn wsL_law (wsV RL 110 RX7 yX7_fewest wsX7_fewest) := goodIn_app (goodIn_of _ (by decide +kernel)) ggL_law_X7_fewest
set_option maxRecDepth 20000 in
theorem ggL_law_X8_fewest : GoodIn wsL_law wsX8_fewest := goodIn_r _ [776, 425, 97, 426, 427, 428, 5, 429, 90, 719, 720, 721, 722, 517, 518, 519, 520, 521, 522, 523, 524, 525, 526, 527, 528, 529, 530, 531, 532, 777, 778, 779, 780, 99, 752, 753, 754, 755, 756, 757, 758, 514, 515, 516, 510, 511, 512, 513, 502, 503, 504, 505, 1036, 1037, 1038, 1039, 1040, 1041, 1042, 1043, 1044, 1045, 1046, 1047, 1048, 1049, 1050, 1051, 1052, 1053, 1054, 1055, 1056, 1057, 1058] (by decide +kernel) (by decide +kernel)
set_option maxRecDepth 20000 in
theorem gL_law_X8_fewest : GoodIn wsL_law (wsV RL 113 RX8 yX8_fewest wsX8_fewest) := goodIn_app (goodIn_of _ (by decide +kernel)) ggL_law_X8_fewest
set_option maxRecDepth 20000 in
theorem ggL_law_X7_march : GoodIn wsL_law wsX7_march := goodIn_r _ [784, 388, 104, 13, 391, 392, 393, 2, 394, 21, 226, 105, 106, 107, 108, 149, 150, 151, 36, 152, 80, 153, 154, 155, 156, 119, 109, 110, 111, 112, 113, 114, 785, 786, 787, 788, 177, 446, 447, 448, 449, 450, 789, 790, 791, 20, 792, 690, 652, 460, 461, 462, 53, 414, 463, 410, 411, 412, 413, 299, 300, 415, 416, 417, 418, 301, 419, 420, 464, 465, 466, 467, 48, 468, 456, 457, 458, 302, 469, 470, 471, 472, 473, 474, 475, 476, 477, 478, 274, 275, 276, 47, 479, 480, 481, 482, 120, 121, 122, 123, 1027, 1028, 1029, 1030, 1031, 1032, 1033, 1034, 1035, 1066, 1067, 1068, 1069, 1070, 1071, 1072, 1073, 1085, 1086, 1087, 1088, 1089, 1090, 1091, 1092, 1093, 1094, 1095] (by decide +kernel) (by decide +kernel)
set_option maxRecDepth 20000 in
theorem gL_law_X7_march : GoodIn wsL_law (wsV RL 114 RX7 yX7_march wsX7_march) := goodIn_app (goodIn_of _ (by decide +kernel)) ggL_law_X7_march
set_option maxRecDepth 20000 in
theorem ggL_law_X8_march : GoodIn wsL_law wsX8_march := goodIn_r _ [796, 425, 128, 99, 87, 426, 427, 428, 5, 429, 90, 129, 130, 131, 132, 133, 134, 165, 166, 167, 168, 85, 135, 136, 137, 138, 139, 140, 187, 188, 189, 190, 86, 495, 496, 497, 498, 506, 507, 508, 509, 438, 439, 440, 510, 511, 512, 513, 502, 503, 504, 505, 514, 515, 516, 517, 518, 519, 520, 521, 522, 523, 524, 525, 526, 527, 528, 529, 530, 531, 532, 141, 142, 143, 144, 1036, 1037, 1038, 1039, 1040, 1041, 1042, 1043, 1044, 1045, 1046, 1047, 1048, 1049, 1050, 1051, 1052, 1053, 1054, 1055, 1056, 1057, 1058] (by decide +kernel) (by decide +kernel)
set_option maxRecDepth 20000 in
theorem gL_law_X8_march : GoodIn wsL_law (wsV RL 118 RX8 yX8_march wsX8_march) := goodIn_app (goodIn_of _ (by decide +kernel)) ggL_law_X8_march
set_option maxRecDepth 20000 in
theorem ggL_law_X7_cheap : GoodIn wsL_law wsX7_cheap := goodIn_r _ [800, 388, 104, 21, 391, 392, 393, 2, 394, 226, 661, 662, 663, 664, 625, 626, 627, 628, 801, 802, 803, 20, 804, 53, 414, 669, 649, 650, 651, 301, 652, 460, 461, 462, 463, 410, 411, 412, 413, 299, 300, 415, 416, 417, 418, 419, 420, 464, 465, 466, 467, 48, 468, 456, 457, 458, 302, 469, 470, 471, 472, 473, 474, 475, 476, 477, 478, 274, 275, 276, 47, 479, 480, 481, 482, 488, 489, 805, 806, 807, 808, 49, 1027, 1028, 1029, 1030, 1031, 1032, 1033, 1034, 1035, 1066, 1067, 1068, 1069, 1070, 1071, 1072, 1073, 1088, 1089, 1090, 1091, 1092, 1093, 1094, 1095] (by decide +kernel) (by decide +kernel)
set_option maxRecDepth 20000 in
theorem gL_law_X7_cheap : GoodIn wsL_law (wsV RL 119 RX7 yX7_cheap wsX7_cheap) := goodIn_app (goodIn_of _ (by decide +kernel)) ggL_law_X7_cheap
set_option maxRecDepth 20000 in
theorem ggL_law_X8_cheap : GoodIn wsL_law wsX8_cheap := goodIn_r _ [812, 425, 128, 99, 90, 426, 427, 428, 5, 429, 674, 675, 676, 677, 132, 133, 134, 633, 634, 635, 514, 515, 516, 678, 679, 680, 681, 438, 439, 440, 510, 511, 512, 513, 502, 503, 504, 505, 517, 518, 519, 520, 521, 522, 523, 524, 525, 526, 527, 528, 529, 530, 531, 532, 752, 753, 754, 1036, 1037, 1038, 1039, 1040, 1041, 1042, 1043, 1044, 1045, 1046, 1047, 1048, 1049, 1050, 1051, 1052, 1053, 1054, 1055, 1056, 1057, 1058] (by decide +kernel) (by decide +kernel)
set_option maxRecDepth 20000 in
theorem gL_law_X8_cheap : GoodIn wsL_law (wsV RL 122 RX8 yX8_cheap wsX8_cheap) := goodIn_app (goodIn_of _ (by decide +kernel)) ggL_law_X8_cheap
set_option maxRecDepth 20000 in
theorem ggL_law_X7_near : GoodIn wsL_law wsX7_near := goodIn_r _ [816, 104, 21, 446, 447, 448, 449, 2, 450, 226, 817, 818, 819, 20, 820, 690, 301, 478, 274, 275, 276, 47, 586, 1027, 1028, 1029, 1030, 1031, 1032, 1033, 1034, 1035, 1066, 1067, 1068, 1069, 1070, 1071, 1072, 1073] (by decide +kernel) (by decide +kernel)
set_option maxRecDepth 20000 in
theorem gL_law_X7_near : GoodIn wsL_law (wsV RL 123 RX7 yX7_near wsX7_near) := goodIn_app (goodIn_of _ (by decide +kernel)) ggL_law_X7_near
set_option maxRecDepth 20000 in
theorem ggL_law_X8_near : GoodIn wsL_law wsX8_near := goodIn_r _ [824, 128, 99, 90, 495, 496, 497, 5, 498, 132, 133, 134, 525, 526, 527, 528, 1036, 1037, 1038, 1039, 1040, 1041, 1042, 1043, 1044, 1045, 1046, 1047, 1048, 1049, 1050, 1051, 1052, 1053, 1054, 1055, 1056, 1057, 1058] (by decide +kernel) (by decide +kernel)
set_option maxRecDepth 20000 in
theorem gL_law_X8_near : GoodIn wsL_law (wsV RL 126 RX8 yX8_near wsX8_near) := goodIn_app (goodIn_of _ (by decide +kernel)) ggL_law_X8_near
set_option maxRecDepth 20000 in
theorem ggL_law_X7_rules : GoodIn wsL_law wsX7_rules := goodIn_r _ [828, 388, 104, 13, 391, 392, 393, 2, 394, 21, 226, 105, 106, 107, 108, 149, 150, 151, 36, 152, 80, 153, 154, 155, 156, 119, 109, 110, 111, 112, 113, 114, 829, 830, 831, 832, 389, 537, 833, 834, 390, 177, 835, 416, 417, 20, 418, 301, 419, 420, 490, 488, 489, 120, 121, 122, 123, 1027, 1028, 1029, 1030, 1031, 1032, 1033, 1034, 1035, 1066, 1067, 1068, 1069, 1070, 1071, 1072, 1073, 1085, 1086, 1087, 1088, 1089, 1090, 1091, 1092, 1093, 1094, 1095] (by decide +kernel) (by decide +kernel)
set_option maxRecDepth 20000 in
theorem gL_law_X7_rules : GoodIn wsL_law (wsV RL 127 RX7 yX7_rules wsX7_rules) := goodIn_app (goodIn_of _ (by decide +kernel)) ggL_law_X7_rules
set_option maxRecDepth 20000 in
theorem ggL_law_X8_rules : GoodIn wsL_law wsX8_rules := goodIn_r _ [839, 425, 128, 90, 92, 87, 426, 427, 428, 5, 429, 129, 130, 131, 132, 133, 134, 165, 166, 167, 168, 85, 99, 135, 136, 137, 138, 139, 140, 187, 188, 189, 190, 86, 373, 374, 375, 438, 439, 440, 141, 142, 143, 144, 1036, 1037, 1038, 1039, 1040, 1041, 1042, 1043, 1044, 1045, 1046, 1047, 1048, 1049, 1050, 1051, 1052, 1053, 1054, 1055, 1056, 1057, 1058] (by decide +kernel) (by decide +kernel)
set_option maxRecDepth 20000 in
theorem gL_law_X8_rules : GoodIn wsL_law (wsV RL 130 RX8 yX8_rules wsX8_rules) := goodIn_app (goodIn_of _ (by decide +kernel)) ggL_law_X8_rules
set_option maxRecDepth 20000 in
theorem ggL_law_X7_fits : GoodIn wsL_law wsX7_fits := goodIn_r _ [843, 104, 13, 21, 226, 844, 547, 548, 549, 2, 550, 551, 105, 106, 107, 108, 149, 150, 151, 36, 152, 80, 153, 154, 155, 156, 119, 109, 110, 111, 112, 113, 114, 845, 846, 847, 848, 409, 410, 411, 20, 412, 53, 413, 299, 300, 414, 415, 416, 417, 418, 301, 419, 420, 849, 850, 851, 852, 389, 390, 177, 853, 475, 476, 477, 478, 274, 275, 276, 47, 479, 480, 481, 482, 490, 488, 489, 854, 855, 856, 857, 120, 121, 122, 123, 1027, 1028, 1029, 1030, 1031, 1032, 1033, 1034, 1035, 1066, 1067, 1068, 1069, 1070, 1071, 1072, 1073, 1085, 1086, 1087, 1088, 1089, 1090, 1091, 1092, 1093, 1094, 1095] (by decide +kernel) (by decide +kernel)
set_option maxRecDepth 20000 in
theorem gL_law_X7_fits : GoodIn wsL_law (wsV RL 131 RX7 yX7_fits wsX7_fits) := goodIn_app (goodIn_of _ (by decide +kernel)) ggL_law_X7_fits
set_option maxRecDepth 20000 in
theorem ggL_law_X8_fits : GoodIn wsL_law wsX8_fits := goodIn_r _ [861, 128, 90, 556, 557, 558, 5, 559, 132, 133, 134, 129, 130, 131, 165, 166, 167, 168, 85, 99, 135, 136, 137, 138, 139, 140, 187, 188, 189, 190, 86, 438, 439, 440, 862, 863, 864, 865, 87, 521, 522, 523, 524, 525, 526, 527, 528, 529, 530, 531, 532, 517, 518, 519, 520, 141, 142, 143, 144, 1036, 1037, 1038, 1039, 1040, 1041, 1042, 1043, 1044, 1045, 1046, 1047, 1048, 1049, 1050, 1051, 1052, 1053, 1054, 1055, 1056, 1057, 1058] (by decide +kernel) (by decide +kernel)
set_option maxRecDepth 20000 in
theorem gL_law_X8_fits : GoodIn wsL_law (wsV RL 134 RX8 yX8_fits wsX8_fits) := goodIn_app (goodIn_of _ (by decide +kernel)) ggL_law_X8_fits
set_option maxRecDepth 20000 in
theorem ggL_law_X7_sure : GoodIn wsL_law wsX7_sure := goodIn_r _ [869, 104, 21, 447, 448, 449, 2, 450, 226, 451, 452, 453, 454, 699, 700, 29, 701, 702, 703, 704, 705, 706, 707, 708, 709, 710, 711, 712, 713, 714, 475, 476, 20, 477, 478, 274, 275, 276, 47, 479, 480, 481, 482, 488, 489, 870, 741, 742, 743, 744, 745, 746, 871, 737, 738, 739, 465, 466, 467, 48, 468, 456, 457, 458, 302, 419, 420, 469, 470, 471, 472, 53, 473, 474, 872, 873, 874, 875, 876, 877, 1027, 1028, 1029, 1030, 1031, 1032, 1033, 1034, 1035, 1066, 1067, 1068, 1069, 1070, 1071, 1072, 1073, 1088, 1089, 1090, 1091, 1092, 1093, 1094, 1095] (by decide +kernel) (by decide +kernel)
set_option maxRecDepth 20000 in
theorem gL_law_X7_sure : GoodIn wsL_law (wsV RL 135 RX7 yX7_sure wsX7_sure) := goodIn_app (goodIn_of _ (by decide +kernel)) ggL_law_X7_sure
set_option maxRecDepth 20000 in
theorem ggL_law_X8_sure : GoodIn wsL_law wsX8_sure := goodIn_r _ [881, 128, 495, 496, 497, 5, 498, 90, 132, 133, 134, 499, 500, 501, 719, 720, 721, 722, 517, 518, 519, 520, 521, 522, 523, 524, 525, 526, 527, 528, 529, 530, 531, 532, 755, 756, 757, 758, 514, 515, 516, 510, 511, 512, 513, 502, 503, 504, 505, 752, 753, 754, 1036, 1037, 1038, 1039, 1040, 1041, 1042, 1043, 1044, 1045, 1046, 1047, 1048, 1049, 1050, 1051, 1052, 1053, 1054, 1055, 1056, 1057, 1058] (by decide +kernel) (by decide +kernel)
set_option maxRecDepth 20000 in
theorem gL_law_X8_sure : GoodIn wsL_law (wsV RL 138 RX8 yX8_sure wsX8_sure) := goodIn_app (goodIn_of _ (by decide +kernel)) ggL_law_X8_sure
set_option maxRecDepth 20000 in
theorem ggL_law_X7_drawn : GoodIn wsL_law wsX7_drawn := goodIn_r _ [885, 388, 886, 104, 887, 888, 21, 226, 391, 392, 393, 2, 394, 889, 419, 420, 459, 460, 461, 20, 462, 53, 414, 463, 410, 411, 412, 413, 299, 300, 415, 416, 417, 418, 301, 464, 465, 466, 467, 48, 468, 456, 457, 458, 302, 469, 470, 471, 472, 473, 474, 475, 476, 477, 478, 274, 275, 276, 47, 479, 480, 481, 482, 1027, 1028, 1029, 1030, 1031, 1032, 1033, 1034, 1035, 1066, 1067, 1068, 1069, 1070, 1071, 1072, 1073, 1088, 1089, 1090, 1091, 1092, 1093, 1094, 1095] (by decide +kernel) (by decide +kernel)
set_option maxRecDepth 20000 in
theorem gL_law_X7_drawn : GoodIn wsL_law (wsV RL 139 RX7 yX7_drawn wsX7_drawn) := goodIn_app (goodIn_of _ (by decide +kernel)) ggL_law_X7_drawn
set_option maxRecDepth 20000 in
theorem ggL_law_X8_drawn : GoodIn wsL_law wsX8_drawn := goodIn_r _ [893, 425, 894, 128, 895, 896, 90, 897, 426, 427, 428, 5, 429, 633, 634, 635, 132, 133, 134, 506, 507, 508, 509, 438, 439, 440, 510, 511, 512, 513, 502, 503, 504, 505, 514, 515, 516, 517, 518, 519, 520, 521, 522, 523, 524, 525, 526, 527, 528, 529, 530, 531, 532, 1036, 1037, 1038, 1039, 1040, 1041, 1042, 1043, 1044, 1045, 1046, 1047, 1048, 1049, 1050, 1051, 1052, 1053, 1054, 1055, 1056, 1057, 1058] (by decide +kernel) (by decide +kernel)
set_option maxRecDepth 20000 in
theorem gL_law_X8_drawn : GoodIn wsL_law (wsV RL 142 RX8 yX8_drawn wsX8_drawn) := goodIn_app (goodIn_of _ (by decide +kernel)) ggL_law_X8_drawn
set_option maxRecDepth 20000 in
theorem ggL_law_X7_image : GoodIn wsL_law wsX7_image := goodIn_r _ [901, 104, 388, 26, 21, 391, 392, 393, 2, 394, 226, 294, 295, 296, 20, 297, 47, 298, 179, 180, 181, 48, 49, 53, 299, 300, 301, 302, 303, 304, 305, 52, 306, 291, 307, 292, 293, 57, 308, 58, 59, 60, 1027, 1028, 1029, 1030, 1031, 1032, 1033, 1034, 1035, 1066, 1067, 1068, 1069, 1070, 1071, 1072, 1073, 1088, 1089, 1090, 1091, 1092, 1093, 1094, 1095] (by decide +kernel) (by decide +kernel)
set_option maxRecDepth 20000 in
theorem gL_law_X7_image : GoodIn wsL_law (wsV RL 143 RX7 yX7_image wsX7_image) := goodIn_app (goodIn_of _ (by decide +kernel)) ggL_law_X7_image
set_option maxRecDepth 20000 in
theorem ggL_law_X8_image : GoodIn wsL_law wsX8_image := goodIn_r _ [905, 128, 425, 90, 94, 96, 132, 133, 5, 134, 426, 427, 428, 429, 373, 374, 375, 1036, 1037, 1038, 1039, 1040, 1041, 1042, 1043, 1044, 1045, 1046, 1047, 1048, 1049, 1050, 1051, 1052, 1053, 1054, 1055, 1056, 1057, 1058] (by decide +kernel) (by decide +kernel)
set_option maxRecDepth 20000 in
theorem gL_law_X8_image : GoodIn wsL_law (wsV RL 146 RX8 yX8_image wsX8_image) := goodIn_app (goodIn_of _ (by decide +kernel)) ggL_law_X8_image
set_option maxRecDepth 20000 in
theorem ggL_law_X7_restore : GoodIn wsL_law wsX7_restore := goodIn_r _ [909, 104, 26, 226, 388, 21, 25, 294, 295, 296, 20, 297, 47, 298, 179, 180, 181, 48, 49, 53, 299, 300, 301, 302, 303, 304, 305, 52, 306, 291, 307, 292, 293, 57, 308, 58, 59, 60, 309, 310, 311, 24, 312, 313, 1027, 1028, 1029, 1030, 1031, 1032, 1033, 1034, 1035, 1066, 1067, 1068, 1069, 1070, 1071, 1072, 1073, 1088, 1089, 1090, 1091, 1092, 1093, 1094, 1095, 1074, 1075, 1076] (by decide +kernel) (by decide +kernel)
set_option maxRecDepth 20000 in
theorem gL_law_X7_restore : GoodIn wsL_law (wsV RL 147 RX7 yX7_restore wsX7_restore) := goodIn_app (goodIn_of _ (by decide +kernel)) ggL_law_X7_restore
set_option maxRecDepth 20000 in
theorem ggL_law_X8_restore : GoodIn wsL_law wsX8_restore := goodIn_r _ [913, 128, 96, 425, 94, 90, 323, 132, 133, 5, 134, 373, 374, 375, 1036, 1037, 1038, 1039, 1040, 1041, 1042, 1043, 1044, 1045, 1046, 1047, 1048, 1049, 1050, 1051, 1052, 1053, 1054, 1055, 1056, 1057, 1058] (by decide +kernel) (by decide +kernel)
set_option maxRecDepth 20000 in
theorem gL_law_X8_restore : GoodIn wsL_law (wsV RL 150 RX8 yX8_restore wsX8_restore) := goodIn_app (goodIn_of _ (by decide +kernel)) ggL_law_X8_restore
set_option maxRecDepth 20000 in
theorem ggL_law_X7_kind : GoodIn wsL_law wsX7_kind := goodIn_r _ [917, 21, 844, 104, 547, 548, 549, 2, 550, 551, 1027, 1028, 1029, 1030, 1031, 1032, 1033, 1034, 1035, 1066, 1067, 1068, 1069, 1070, 1071, 1072, 1073] (by decide +kernel) (by decide +kernel)
set_option maxRecDepth 20000 in
theorem gL_law_X7_kind : GoodIn wsL_law (wsV RL 151 RX7 yX7_kind wsX7_kind) := goodIn_app (goodIn_of _ (by decide +kernel)) ggL_law_X7_kind
set_option maxRecDepth 20000 in
theorem ggL_law_X8_kind : GoodIn wsL_law wsX8_kind := goodIn_r _ [921, 128, 556, 557, 558, 5, 559, 90, 132, 133, 134, 517, 518, 519, 520, 1036, 1037, 1038, 1039, 1040, 1041, 1042, 1043, 1044, 1045, 1046, 1047, 1048, 1049, 1050, 1051, 1052, 1053, 1054, 1055, 1056, 1057, 1058] (by decide +kernel) (by decide +kernel)
set_option maxRecDepth 20000 in
theorem gL_law_X8_kind : GoodIn wsL_law (wsV RL 154 RX8 yX8_kind wsX8_kind) := goodIn_app (goodIn_of _ (by decide +kernel)) ggL_law_X8_kind
set_option maxRecDepth 20000 in
theorem ggL_law_X7_as : GoodIn wsL_law wsX7_as := goodIn_r _ [925, 104, 21, 844, 547, 548, 549, 2, 550, 551, 926, 927, 33, 928, 929, 120, 121, 122, 123, 113, 109, 110, 111, 112, 114, 1027, 1028, 1029, 1030, 1031, 1032, 1033, 1034, 1035, 1066, 1067, 1068, 1069, 1070, 1071, 1072, 1073] (by decide +kernel) (by decide +kernel)
set_option maxRecDepth 20000 in
theorem gL_law_X7_as : GoodIn wsL_law (wsV RL 155 RX7 yX7_as wsX7_as) := goodIn_app (goodIn_of _ (by decide +kernel)) ggL_law_X7_as
set_option maxRecDepth 20000 in
theorem ggL_law_X8_as : GoodIn wsL_law wsX8_as := goodIn_r _ [933, 128, 556, 557, 558, 5, 559, 90, 132, 133, 134, 517, 518, 519, 520, 141, 142, 143, 144, 139, 135, 136, 137, 138, 140, 1036, 1037, 1038, 1039, 1040, 1041, 1042, 1043, 1044, 1045, 1046, 1047, 1048, 1049, 1050, 1051, 1052, 1053, 1054, 1055, 1056, 1057, 1058] (by decide +kernel) (by decide +kernel)
set_option maxRecDepth 20000 in
theorem gL_law_X8_as : GoodIn wsL_law (wsV RL 158 RX8 yX8_as wsX8_as) := goodIn_app (goodIn_of _ (by decide +kernel)) ggL_law_X8_as
set_option maxRecDepth 20000 in
theorem ggL_law_X7_ask : GoodIn wsL_law wsX7_ask := goodIn_r _ [937, 104, 34, 21, 844, 596, 389, 597, 547, 548, 549, 2, 550, 551, 938, 939, 940, 33, 941, 942, 943, 944, 945, 946, 947, 948, 949, 950, 951, 952, 953, 954, 955, 956, 957, 958, 959, 960, 961, 962, 963, 964, 965, 966, 967, 75, 1027, 1028, 1029, 1030, 1031, 1032, 1033, 1034, 1035, 1066, 1067, 1068, 1069, 1070, 1071, 1072, 1073, 1088, 1089, 1090, 1091, 1092, 1093, 1094, 1095, 1079, 1080, 1081, 1082, 1083, 1084] (by decide +kernel) (by decide +kernel)
set_option maxRecDepth 20000 in
theorem gL_law_X7_ask : GoodIn wsL_law (wsV RL 159 RX7 yX7_ask wsX7_ask) := goodIn_app (goodIn_of _ (by decide +kernel)) ggL_law_X7_ask
set_option maxRecDepth 20000 in
theorem ggL_law_X8_ask : GoodIn wsL_law wsX8_ask := goodIn_r _ [971, 128, 972, 556, 557, 558, 5, 559, 90, 132, 133, 134, 517, 518, 519, 520, 973, 974, 975, 976, 977, 978, 979, 980, 98, 981, 982, 983, 984, 985, 986, 987, 988, 989, 990, 991, 992, 1036, 1037, 1038, 1039, 1040, 1041, 1042, 1043, 1044, 1045, 1046, 1047, 1048, 1049, 1050, 1051, 1052, 1053, 1054, 1055, 1056, 1057, 1058] (by decide +kernel) (by decide +kernel)
set_option maxRecDepth 20000 in
theorem gL_law_X8_ask : GoodIn wsL_law (wsV RL 162 RX8 yX8_ask wsX8_ask) := goodIn_app (goodIn_of _ (by decide +kernel)) ggL_law_X8_ask
set_option maxRecDepth 20000 in
theorem ggL_law_X7_trace : GoodIn wsL_law wsX7_trace := goodIn_r _ [996, 34, 997, 446, 998, 1027, 1028, 1029, 1030, 1031, 1032, 1033, 1034, 1035, 1079, 1080, 1081, 1082, 1083, 1084] (by decide +kernel) (by decide +kernel)
set_option maxRecDepth 20000 in
theorem gL_law_X7_trace : GoodIn wsL_law (wsV RL 163 RX7 yX7_trace wsX7_trace) := goodIn_app (goodIn_of _ (by decide +kernel)) ggL_law_X7_trace
set_option maxRecDepth 20000 in
theorem ggL_law_X8_trace : GoodIn wsL_law wsX8_trace := goodIn_r _ [1002, 972, 98, 99, 132, 133, 5, 134, 1036, 1037, 1038, 1039, 1040, 1041, 1042, 1043, 1044, 1045, 1046, 1047, 1048, 1049, 1050, 1051, 1052, 1053, 1054, 1055, 1056, 1057, 1058] (by decide +kernel) (by decide +kernel)
set_option maxRecDepth 20000 in
theorem gL_law_X8_trace : GoodIn wsL_law (wsV RL 166 RX8 yX8_trace wsX8_trace) := goodIn_app (goodIn_of _ (by decide +kernel)) ggL_law_X8_trace
set_option maxRecDepth 20000 in
theorem ggL_law_X7_count : GoodIn wsL_law wsX7_count := goodIn_r _ [1006, 21, 226, 551, 389, 390, 445, 546, 25, 564, 17, 204, 537, 104, 1007, 1008, 1009, 2, 1010, 13, 176, 1011, 1012, 1013, 52, 1014, 57, 1027, 1028, 1029, 1030, 1031, 1032, 1033, 1034, 1035, 1066, 1067, 1068, 1069, 1070, 1071, 1072, 1073, 1088, 1089, 1090, 1091, 1092, 1093, 1094, 1095, 1074, 1075, 1076, 1059, 1060, 1061, 1062, 1063, 1064, 1065, 1085, 1086, 1087] (by decide +kernel) (by decide +kernel)
set_option maxRecDepth 20000 in
theorem gL_law_X7_count : GoodIn wsL_law (wsV RL 167 RX7 yX7_count wsX7_count) := goodIn_app (goodIn_of _ (by decide +kernel)) ggL_law_X7_count
set_option maxRecDepth 20000 in
theorem ggL_law_X8_count : GoodIn wsL_law wsX8_count := goodIn_r _ [1018, 90, 323, 215, 128, 165, 166, 167, 5, 168, 85, 99, 1036, 1037, 1038, 1039, 1040, 1041, 1042, 1043, 1044, 1045, 1046, 1047, 1048, 1049, 1050, 1051, 1052, 1053, 1054, 1055, 1056, 1057, 1058] (by decide +kernel) (by decide +kernel)
set_option maxRecDepth 20000 in
theorem gL_law_X8_count : GoodIn wsL_law (wsV RL 170 RX8 yX8_count wsX8_count) := goodIn_app (goodIn_of _ (by decide +kernel)) ggL_law_X8_count
set_option maxRecDepth 20000 in
theorem ggL_law_X7_status : GoodIn wsL_law wsX7_status := goodIn_r _ [1022, 113, 1027, 1028, 1029, 1030, 1031, 1032, 1033, 1034, 1035] (by decide +kernel) (by decide +kernel)
set_option maxRecDepth 20000 in
theorem gL_law_X7_status : GoodIn wsL_law (wsV RL 171 RX7 yX7_status wsX7_status) := goodIn_app (goodIn_of _ (by decide +kernel)) ggL_law_X7_status
set_option maxRecDepth 20000 in
theorem ggL_law_X8_status : GoodIn wsL_law wsX8_status := goodIn_r _ [1026, 139, 1036, 1037, 1038, 1039, 1040, 1041, 1042, 1043, 1044, 1045, 1046, 1047, 1048, 1049, 1050, 1051, 1052, 1053, 1054, 1055, 1056, 1057, 1058] (by decide +kernel) (by decide +kernel)
set_option maxRecDepth 20000 in
theorem gL_law_X8_status : GoodIn wsL_law (wsV RL 174 RX8 yX8_status wsX8_status) := goodIn_app (goodIn_of _ (by decide +kernel)) ggL_law_X8_status
theorem dL_law_0 : decode cL_law 0 = .ok (.new 7, 3) := by decide +kernel
theorem dL_law_3 : decode cL_law 3 = .ok (.dup, 1) := by decide +kernel
theorem dL_law_4 : decode cL_law 4 = .ok (.invokespecial 9, 3) := by decide +kernel
theorem dL_law_7 : decode cL_law 7 = .ok (.astore_n 1, 1) := by decide +kernel
theorem dL_law_8 : decode cL_law 8 = .ok (.new 10, 3) := by decide +kernel
theorem dL_law_11 : decode cL_law 11 = .ok (.dup, 1) := by decide +kernel
theorem dL_law_12 : decode cL_law 12 = .ok (.invokespecial 12, 3) := by decide +kernel
theorem dL_law_15 : decode cL_law 15 = .ok (.astore_n 2, 1) := by decide +kernel
theorem dL_law_16 : decode cL_law 16 = .ok (.iconst 0, 1) := by decide +kernel
theorem dL_law_17 : decode cL_law 17 = .ok (.istore_n 3, 1) := by decide +kernel
theorem dL_law_18 : decode cL_law 18 = .ok (.iload_n 3, 1) := by decide +kernel
theorem dL_law_19 : decode cL_law 19 = .ok (.aload_n 0, 1) := by decide +kernel
theorem dL_law_20 : decode cL_law 20 = .ok (.arraylength, 1) := by decide +kernel
theorem dL_law_21 : decode cL_law 21 = .ok (.bipush 6, 2) := by decide +kernel
theorem dL_law_23 : decode cL_law 23 = .ok (.isub, 1) := by decide +kernel
theorem dL_law_24 : decode cL_law 24 = .ok (.if_icmp .gt 1403, 3) := by decide +kernel
theorem dL_law_27 : decode cL_law 27 = .ok (.aload_n 0, 1) := by decide +kernel
theorem dL_law_28 : decode cL_law 28 = .ok (.iload_n 3, 1) := by decide +kernel
theorem dL_law_29 : decode cL_law 29 = .ok (.iaload, 1) := by decide +kernel
theorem dL_law_30 : decode cL_law 30 = .ok (.bipush 63, 2) := by decide +kernel
theorem dL_law_32 : decode cL_law 32 = .ok (.iand, 1) := by decide +kernel
theorem dL_law_33 : decode cL_law 33 = .ok (.tableswitch 1388 0 38 #[171, 214, 257, 320, 343, 366, 379, 392, 415, 448, 471, 504, 517, 550, 593, 626, 659, 682, 725, 758, 791, 814, 827, 850, 863, 916, 959, 992, 1045, 1098, 1151, 1194, 1217, 1240, 1263, 1296, 1329, 1352, 1375], 171) := by decide +kernel
theorem dL_law_204 : decode cL_law 204 = .ok (.aload_n 1, 1) := by decide +kernel
theorem dL_law_205 : decode cL_law 205 = .ok (.aload_n 0, 1) := by decide +kernel
theorem dL_law_206 : decode cL_law 206 = .ok (.iload_n 3, 1) := by decide +kernel
theorem dL_law_207 : decode cL_law 207 = .ok (.iconst 1, 1) := by decide +kernel
theorem dL_law_208 : decode cL_law 208 = .ok (.iadd, 1) := by decide +kernel
theorem dL_law_209 : decode cL_law 209 = .ok (.iaload, 1) := by decide +kernel
theorem dL_law_210 : decode cL_law 210 = .ok (.aload_n 0, 1) := by decide +kernel
theorem dL_law_211 : decode cL_law 211 = .ok (.iload_n 3, 1) := by decide +kernel
theorem dL_law_212 : decode cL_law 212 = .ok (.iconst 2, 1) := by decide +kernel
theorem dL_law_213 : decode cL_law 213 = .ok (.iadd, 1) := by decide +kernel
theorem dL_law_214 : decode cL_law 214 = .ok (.iaload, 1) := by decide +kernel
theorem dL_law_215 : decode cL_law 215 = .ok (.aload_n 0, 1) := by decide +kernel
theorem dL_law_216 : decode cL_law 216 = .ok (.iload_n 3, 1) := by decide +kernel
theorem dL_law_217 : decode cL_law 217 = .ok (.iconst 3, 1) := by decide +kernel
theorem dL_law_218 : decode cL_law 218 = .ok (.iadd, 1) := by decide +kernel
theorem dL_law_219 : decode cL_law 219 = .ok (.iaload, 1) := by decide +kernel
theorem dL_law_220 : decode cL_law 220 = .ok (.invokevirtual 13, 3) := by decide +kernel
theorem dL_law_223 : decode cL_law 223 = .ok (.aload_n 2, 1) := by decide +kernel
theorem dL_law_224 : decode cL_law 224 = .ok (.aload_n 0, 1) := by decide +kernel
theorem dL_law_225 : decode cL_law 225 = .ok (.iload_n 3, 1) := by decide +kernel
theorem dL_law_226 : decode cL_law 226 = .ok (.iconst 1, 1) := by decide +kernel
theorem dL_law_227 : decode cL_law 227 = .ok (.iadd, 1) := by decide +kernel
theorem dL_law_228 : decode cL_law 228 = .ok (.iaload, 1) := by decide +kernel
theorem dL_law_229 : decode cL_law 229 = .ok (.aload_n 0, 1) := by decide +kernel
theorem dL_law_230 : decode cL_law 230 = .ok (.iload_n 3, 1) := by decide +kernel
theorem dL_law_231 : decode cL_law 231 = .ok (.iconst 2, 1) := by decide +kernel
theorem dL_law_232 : decode cL_law 232 = .ok (.iadd, 1) := by decide +kernel
theorem dL_law_233 : decode cL_law 233 = .ok (.iaload, 1) := by decide +kernel
theorem dL_law_234 : decode cL_law 234 = .ok (.aload_n 0, 1) := by decide +kernel
theorem dL_law_235 : decode cL_law 235 = .ok (.iload_n 3, 1) := by decide +kernel
theorem dL_law_236 : decode cL_law 236 = .ok (.iconst 3, 1) := by decide +kernel
theorem dL_law_237 : decode cL_law 237 = .ok (.iadd, 1) := by decide +kernel
theorem dL_law_238 : decode cL_law 238 = .ok (.iaload, 1) := by decide +kernel
theorem dL_law_239 : decode cL_law 239 = .ok (.invokevirtual 17, 3) := by decide +kernel
theorem dL_law_242 : decode cL_law 242 = .ok (.if_icmp .eq 1179, 3) := by decide +kernel
theorem dL_law_245 : decode cL_law 245 = .ok (.iconst 0, 1) := by decide +kernel
theorem dL_law_246 : decode cL_law 246 = .ok (.ireturn, 1) := by decide +kernel
theorem dL_law_247 : decode cL_law 247 = .ok (.aload_n 1, 1) := by decide +kernel
theorem dL_law_248 : decode cL_law 248 = .ok (.aload_n 0, 1) := by decide +kernel
theorem dL_law_249 : decode cL_law 249 = .ok (.iload_n 3, 1) := by decide +kernel
theorem dL_law_250 : decode cL_law 250 = .ok (.iconst 1, 1) := by decide +kernel
theorem dL_law_251 : decode cL_law 251 = .ok (.iadd, 1) := by decide +kernel
theorem dL_law_252 : decode cL_law 252 = .ok (.iaload, 1) := by decide +kernel
theorem dL_law_253 : decode cL_law 253 = .ok (.aload_n 0, 1) := by decide +kernel
theorem dL_law_254 : decode cL_law 254 = .ok (.iload_n 3, 1) := by decide +kernel
theorem dL_law_255 : decode cL_law 255 = .ok (.iconst 2, 1) := by decide +kernel
theorem dL_law_256 : decode cL_law 256 = .ok (.iadd, 1) := by decide +kernel
theorem dL_law_257 : decode cL_law 257 = .ok (.iaload, 1) := by decide +kernel
theorem dL_law_258 : decode cL_law 258 = .ok (.aload_n 0, 1) := by decide +kernel
theorem dL_law_259 : decode cL_law 259 = .ok (.iload_n 3, 1) := by decide +kernel
theorem dL_law_260 : decode cL_law 260 = .ok (.iconst 3, 1) := by decide +kernel
theorem dL_law_261 : decode cL_law 261 = .ok (.iadd, 1) := by decide +kernel
theorem dL_law_262 : decode cL_law 262 = .ok (.iaload, 1) := by decide +kernel
theorem dL_law_263 : decode cL_law 263 = .ok (.invokevirtual 18, 3) := by decide +kernel
theorem dL_law_266 : decode cL_law 266 = .ok (.pop, 1) := by decide +kernel
theorem dL_law_267 : decode cL_law 267 = .ok (.aload_n 2, 1) := by decide +kernel
theorem dL_law_268 : decode cL_law 268 = .ok (.aload_n 0, 1) := by decide +kernel
theorem dL_law_269 : decode cL_law 269 = .ok (.iload_n 3, 1) := by decide +kernel
theorem dL_law_270 : decode cL_law 270 = .ok (.iconst 1, 1) := by decide +kernel
theorem dL_law_271 : decode cL_law 271 = .ok (.iadd, 1) := by decide +kernel
theorem dL_law_272 : decode cL_law 272 = .ok (.iaload, 1) := by decide +kernel
theorem dL_law_273 : decode cL_law 273 = .ok (.aload_n 0, 1) := by decide +kernel
theorem dL_law_274 : decode cL_law 274 = .ok (.iload_n 3, 1) := by decide +kernel
theorem dL_law_275 : decode cL_law 275 = .ok (.iconst 2, 1) := by decide +kernel
theorem dL_law_276 : decode cL_law 276 = .ok (.iadd, 1) := by decide +kernel
theorem dL_law_277 : decode cL_law 277 = .ok (.iaload, 1) := by decide +kernel
theorem dL_law_278 : decode cL_law 278 = .ok (.aload_n 0, 1) := by decide +kernel
theorem dL_law_279 : decode cL_law 279 = .ok (.iload_n 3, 1) := by decide +kernel
theorem dL_law_280 : decode cL_law 280 = .ok (.iconst 3, 1) := by decide +kernel
theorem dL_law_281 : decode cL_law 281 = .ok (.iadd, 1) := by decide +kernel
theorem dL_law_282 : decode cL_law 282 = .ok (.iaload, 1) := by decide +kernel
theorem dL_law_283 : decode cL_law 283 = .ok (.invokevirtual 21, 3) := by decide +kernel
theorem dL_law_286 : decode cL_law 286 = .ok (.pop, 1) := by decide +kernel
theorem dL_law_287 : decode cL_law 287 = .ok (.goto 1134, 3) := by decide +kernel
theorem dL_law_290 : decode cL_law 290 = .ok (.aload_n 1, 1) := by decide +kernel
theorem dL_law_291 : decode cL_law 291 = .ok (.aload_n 0, 1) := by decide +kernel
theorem dL_law_292 : decode cL_law 292 = .ok (.iload_n 3, 1) := by decide +kernel
theorem dL_law_293 : decode cL_law 293 = .ok (.iconst 1, 1) := by decide +kernel
theorem dL_law_294 : decode cL_law 294 = .ok (.iadd, 1) := by decide +kernel
theorem dL_law_295 : decode cL_law 295 = .ok (.iaload, 1) := by decide +kernel
theorem dL_law_296 : decode cL_law 296 = .ok (.aload_n 0, 1) := by decide +kernel
theorem dL_law_297 : decode cL_law 297 = .ok (.iload_n 3, 1) := by decide +kernel
theorem dL_law_298 : decode cL_law 298 = .ok (.iconst 2, 1) := by decide +kernel
theorem dL_law_299 : decode cL_law 299 = .ok (.iadd, 1) := by decide +kernel
theorem dL_law_300 : decode cL_law 300 = .ok (.iaload, 1) := by decide +kernel
theorem dL_law_301 : decode cL_law 301 = .ok (.aload_n 0, 1) := by decide +kernel
theorem dL_law_302 : decode cL_law 302 = .ok (.iload_n 3, 1) := by decide +kernel
theorem dL_law_303 : decode cL_law 303 = .ok (.iconst 3, 1) := by decide +kernel
theorem dL_law_304 : decode cL_law 304 = .ok (.iadd, 1) := by decide +kernel
theorem dL_law_305 : decode cL_law 305 = .ok (.iaload, 1) := by decide +kernel
theorem dL_law_306 : decode cL_law 306 = .ok (.aload_n 0, 1) := by decide +kernel
theorem dL_law_307 : decode cL_law 307 = .ok (.iload_n 3, 1) := by decide +kernel
theorem dL_law_308 : decode cL_law 308 = .ok (.iconst 4, 1) := by decide +kernel
theorem dL_law_309 : decode cL_law 309 = .ok (.iadd, 1) := by decide +kernel
theorem dL_law_310 : decode cL_law 310 = .ok (.iaload, 1) := by decide +kernel
theorem dL_law_311 : decode cL_law 311 = .ok (.aload_n 0, 1) := by decide +kernel
theorem dL_law_312 : decode cL_law 312 = .ok (.iload_n 3, 1) := by decide +kernel
theorem dL_law_313 : decode cL_law 313 = .ok (.iconst 5, 1) := by decide +kernel
theorem dL_law_314 : decode cL_law 314 = .ok (.iadd, 1) := by decide +kernel
theorem dL_law_315 : decode cL_law 315 = .ok (.iaload, 1) := by decide +kernel
theorem dL_law_316 : decode cL_law 316 = .ok (.invokevirtual 22, 3) := by decide +kernel
theorem dL_law_319 : decode cL_law 319 = .ok (.pop, 1) := by decide +kernel
theorem dL_law_320 : decode cL_law 320 = .ok (.aload_n 2, 1) := by decide +kernel
theorem dL_law_321 : decode cL_law 321 = .ok (.aload_n 0, 1) := by decide +kernel
theorem dL_law_322 : decode cL_law 322 = .ok (.iload_n 3, 1) := by decide +kernel
theorem dL_law_323 : decode cL_law 323 = .ok (.iconst 1, 1) := by decide +kernel
theorem dL_law_324 : decode cL_law 324 = .ok (.iadd, 1) := by decide +kernel
theorem dL_law_325 : decode cL_law 325 = .ok (.iaload, 1) := by decide +kernel
theorem dL_law_326 : decode cL_law 326 = .ok (.aload_n 0, 1) := by decide +kernel
theorem dL_law_327 : decode cL_law 327 = .ok (.iload_n 3, 1) := by decide +kernel
theorem dL_law_328 : decode cL_law 328 = .ok (.iconst 2, 1) := by decide +kernel
theorem dL_law_329 : decode cL_law 329 = .ok (.iadd, 1) := by decide +kernel
theorem dL_law_330 : decode cL_law 330 = .ok (.iaload, 1) := by decide +kernel
theorem dL_law_331 : decode cL_law 331 = .ok (.aload_n 0, 1) := by decide +kernel
theorem dL_law_332 : decode cL_law 332 = .ok (.iload_n 3, 1) := by decide +kernel
theorem dL_law_333 : decode cL_law 333 = .ok (.iconst 3, 1) := by decide +kernel
theorem dL_law_334 : decode cL_law 334 = .ok (.iadd, 1) := by decide +kernel
theorem dL_law_335 : decode cL_law 335 = .ok (.iaload, 1) := by decide +kernel
theorem dL_law_336 : decode cL_law 336 = .ok (.aload_n 0, 1) := by decide +kernel
theorem dL_law_337 : decode cL_law 337 = .ok (.iload_n 3, 1) := by decide +kernel
theorem dL_law_338 : decode cL_law 338 = .ok (.iconst 4, 1) := by decide +kernel
theorem dL_law_339 : decode cL_law 339 = .ok (.iadd, 1) := by decide +kernel
theorem dL_law_340 : decode cL_law 340 = .ok (.iaload, 1) := by decide +kernel
theorem dL_law_341 : decode cL_law 341 = .ok (.aload_n 0, 1) := by decide +kernel
theorem dL_law_342 : decode cL_law 342 = .ok (.iload_n 3, 1) := by decide +kernel
theorem dL_law_343 : decode cL_law 343 = .ok (.iconst 5, 1) := by decide +kernel
theorem dL_law_344 : decode cL_law 344 = .ok (.iadd, 1) := by decide +kernel
theorem dL_law_345 : decode cL_law 345 = .ok (.iaload, 1) := by decide +kernel
theorem dL_law_346 : decode cL_law 346 = .ok (.invokevirtual 26, 3) := by decide +kernel
theorem dL_law_349 : decode cL_law 349 = .ok (.pop, 1) := by decide +kernel
theorem dL_law_350 : decode cL_law 350 = .ok (.goto 1071, 3) := by decide +kernel
theorem dL_law_353 : decode cL_law 353 = .ok (.aload_n 1, 1) := by decide +kernel
theorem dL_law_354 : decode cL_law 354 = .ok (.aload_n 0, 1) := by decide +kernel
theorem dL_law_355 : decode cL_law 355 = .ok (.iload_n 3, 1) := by decide +kernel
theorem dL_law_356 : decode cL_law 356 = .ok (.iconst 1, 1) := by decide +kernel
theorem dL_law_357 : decode cL_law 357 = .ok (.iadd, 1) := by decide +kernel
theorem dL_law_358 : decode cL_law 358 = .ok (.iaload, 1) := by decide +kernel
theorem dL_law_359 : decode cL_law 359 = .ok (.invokevirtual 27, 3) := by decide +kernel
theorem dL_law_362 : decode cL_law 362 = .ok (.pop, 1) := by decide +kernel
theorem dL_law_363 : decode cL_law 363 = .ok (.aload_n 2, 1) := by decide +kernel
theorem dL_law_364 : decode cL_law 364 = .ok (.aload_n 0, 1) := by decide +kernel
theorem dL_law_365 : decode cL_law 365 = .ok (.iload_n 3, 1) := by decide +kernel
theorem dL_law_366 : decode cL_law 366 = .ok (.iconst 1, 1) := by decide +kernel
theorem dL_law_367 : decode cL_law 367 = .ok (.iadd, 1) := by decide +kernel
theorem dL_law_368 : decode cL_law 368 = .ok (.iaload, 1) := by decide +kernel
theorem dL_law_369 : decode cL_law 369 = .ok (.invokevirtual 31, 3) := by decide +kernel
theorem dL_law_372 : decode cL_law 372 = .ok (.pop, 1) := by decide +kernel
theorem dL_law_373 : decode cL_law 373 = .ok (.goto 1048, 3) := by decide +kernel
theorem dL_law_376 : decode cL_law 376 = .ok (.aload_n 1, 1) := by decide +kernel
theorem dL_law_377 : decode cL_law 377 = .ok (.aload_n 0, 1) := by decide +kernel
theorem dL_law_378 : decode cL_law 378 = .ok (.iload_n 3, 1) := by decide +kernel
theorem dL_law_379 : decode cL_law 379 = .ok (.iconst 1, 1) := by decide +kernel
theorem dL_law_380 : decode cL_law 380 = .ok (.iadd, 1) := by decide +kernel
theorem dL_law_381 : decode cL_law 381 = .ok (.iaload, 1) := by decide +kernel
theorem dL_law_382 : decode cL_law 382 = .ok (.invokevirtual 32, 3) := by decide +kernel
theorem dL_law_385 : decode cL_law 385 = .ok (.pop, 1) := by decide +kernel
theorem dL_law_386 : decode cL_law 386 = .ok (.aload_n 2, 1) := by decide +kernel
theorem dL_law_387 : decode cL_law 387 = .ok (.aload_n 0, 1) := by decide +kernel
theorem dL_law_388 : decode cL_law 388 = .ok (.iload_n 3, 1) := by decide +kernel
theorem dL_law_389 : decode cL_law 389 = .ok (.iconst 1, 1) := by decide +kernel
theorem dL_law_390 : decode cL_law 390 = .ok (.iadd, 1) := by decide +kernel
theorem dL_law_391 : decode cL_law 391 = .ok (.iaload, 1) := by decide +kernel
theorem dL_law_392 : decode cL_law 392 = .ok (.invokevirtual 35, 3) := by decide +kernel
theorem dL_law_395 : decode cL_law 395 = .ok (.pop, 1) := by decide +kernel
theorem dL_law_396 : decode cL_law 396 = .ok (.goto 1025, 3) := by decide +kernel
theorem dL_law_399 : decode cL_law 399 = .ok (.aload_n 1, 1) := by decide +kernel
theorem dL_law_400 : decode cL_law 400 = .ok (.invokevirtual 36, 3) := by decide +kernel
theorem dL_law_403 : decode cL_law 403 = .ok (.pop, 1) := by decide +kernel
theorem dL_law_404 : decode cL_law 404 = .ok (.aload_n 2, 1) := by decide +kernel
theorem dL_law_405 : decode cL_law 405 = .ok (.invokevirtual 40, 3) := by decide +kernel
theorem dL_law_408 : decode cL_law 408 = .ok (.pop, 1) := by decide +kernel
theorem dL_law_409 : decode cL_law 409 = .ok (.goto 1012, 3) := by decide +kernel
theorem dL_law_412 : decode cL_law 412 = .ok (.aload_n 1, 1) := by decide +kernel
theorem dL_law_413 : decode cL_law 413 = .ok (.invokevirtual 41, 3) := by decide +kernel
theorem dL_law_416 : decode cL_law 416 = .ok (.pop, 1) := by decide +kernel
theorem dL_law_417 : decode cL_law 417 = .ok (.aload_n 2, 1) := by decide +kernel
theorem dL_law_418 : decode cL_law 418 = .ok (.invokevirtual 44, 3) := by decide +kernel
theorem dL_law_421 : decode cL_law 421 = .ok (.pop, 1) := by decide +kernel
theorem dL_law_422 : decode cL_law 422 = .ok (.goto 999, 3) := by decide +kernel
theorem dL_law_425 : decode cL_law 425 = .ok (.aload_n 1, 1) := by decide +kernel
theorem dL_law_426 : decode cL_law 426 = .ok (.aload_n 0, 1) := by decide +kernel
theorem dL_law_427 : decode cL_law 427 = .ok (.iload_n 3, 1) := by decide +kernel
theorem dL_law_428 : decode cL_law 428 = .ok (.iconst 1, 1) := by decide +kernel
theorem dL_law_429 : decode cL_law 429 = .ok (.iadd, 1) := by decide +kernel
theorem dL_law_430 : decode cL_law 430 = .ok (.iaload, 1) := by decide +kernel
theorem dL_law_431 : decode cL_law 431 = .ok (.invokevirtual 45, 3) := by decide +kernel
theorem dL_law_434 : decode cL_law 434 = .ok (.pop, 1) := by decide +kernel
