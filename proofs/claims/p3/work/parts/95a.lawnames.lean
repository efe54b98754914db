def wsL_law_r1 : List Cond := [Cond.classLink RL 7 RX7, Cond.instantiable RX7 9, Cond.initialized RX7, Cond.classLink RL 10 RX8, Cond.instantiable RX8 23, Cond.initialized RX8, Cond.methodLink RL 9 yX7_init, Cond.instanceMethod yX7_init, Cond.code yX7_init cX7_init 2 none, Cond.methodLink RX7 1 objectInit, Cond.instanceMethod objectInit, Cond.code objectInit ⟨#[0xb1]⟩ 1 none, Cond.classLink RX7 9 RX5, Cond.fieldLink RX7 11 "WrongWord" "rows" "[LWrongWord$Row;", Cond.classLink RX7 15 RX6, Cond.instantiable RX6 7, Cond.initialized RX6, Cond.fieldLink RX7 18 "WrongWord" "tape" "LWrongWord$Tape;", Cond.classLink RX7 22 RX2, Cond.instantiable RX2 8, Cond.initialized RX2, Cond.fieldLink RX7 25 "WrongWord" "gate" "LWrongWord$Gate;", Cond.classLink RX7 29 RX0, Cond.instantiable RX0 3]
def wsL_law_r2 : List Cond := [Cond.initialized RX0, Cond.fieldLink RX7 32 "WrongWord" "acts" "LWrongWord$Acts;", Cond.fieldLink RX7 36 "WrongWord" "images" "[LWrongWord$Gate;", Cond.classLink RX7 40 RX3, Cond.instantiable RX3 2, Cond.initialized RX3, Cond.fieldLink RX7 43 "WrongWord" "guesses" "LWrongWord$Guesses;", Cond.classLink RX7 47 RX1, Cond.instantiable RX1 6, Cond.initialized RX1, Cond.fieldLink RX7 50 "WrongWord" "asks" "LWrongWord$Asks;", Cond.instantiable RX5 3, Cond.initialized RX5, Cond.instanceMethod yX6_init, Cond.code yX6_init cX6_init 1 none, Cond.methodLink RX6 3 objectInit, Cond.arrayClass .int, Cond.fieldLink RX6 9 "WrongWord$Tape" "bytes" "[I", Cond.classLink RX6 15 RX2, Cond.fieldLink RX6 18 "WrongWord$Tape" "draft" "LWrongWord$Gate;", Cond.instanceMethod yX2_init, Cond.code yX2_init cX2_init 1 none, Cond.methodLink RX2 3 objectInit, Cond.fieldLink RX2 9 "WrongWord$Gate" "letters" "[I"]
def wsL_law_r3 : List Cond := [Cond.fieldLink RX2 15 "WrongWord$Gate" "kinds" "[I", Cond.fieldLink RX2 18 "WrongWord$Gate" "fees" "[I", Cond.classLink RX2 21 RX4, Cond.instantiable RX4 8, Cond.initialized RX4, Cond.fieldLink RX2 24 "WrongWord$Gate" "now" "LWrongWord$Moment;", Cond.instanceMethod yX4_init, Cond.code yX4_init cX4_init 1 none, Cond.methodLink RX4 3 objectInit, Cond.fieldLink RX4 9 "WrongWord$Moment" "took" "[I", Cond.fieldLink RX4 15 "WrongWord$Moment" "triedWord" "[I", Cond.fieldLink RX4 18 "WrongWord$Moment" "triedGuard" "[I", Cond.fieldLink RX4 21 "WrongWord$Moment" "triedTaken" "[I", Cond.methodLink RX7 31 yX0_init, Cond.instanceMethod yX0_init, Cond.code yX0_init cX0_init 2 none, Cond.methodLink RX0 3 objectInit, Cond.classLink RX0 9 RX4, Cond.fieldLink RX0 11 "WrongWord$Acts" "ahead" "[LWrongWord$Moment;", Cond.instanceMethod yX3_init, Cond.code yX3_init cX3_init 1 none, Cond.methodLink RX3 3 objectInit, Cond.fieldLink RX3 9 "WrongWord$Guesses" "catching" "[I", Cond.fieldLink RX3 15 "WrongWord$Guesses" "menFor" "[I"]
def wsL_law_r4 : List Cond := [Cond.instanceMethod yX1_init, Cond.code yX1_init cX1_init 1 none, Cond.methodLink RX1 3 objectInit, Cond.fieldLink RX1 11 "WrongWord$Asks" "bodies" "[I", Cond.instanceMethod yX5_init, Cond.code yX5_init cX5_init 1 none, Cond.methodLink RX5 3 objectInit, Cond.fieldLink RX5 9 "WrongWord$Row" "items" "[I", Cond.fieldLink RX5 15 "WrongWord$Row" "lane" "I", Cond.methodLink RL 12 yX8_init, Cond.instanceMethod yX8_init, Cond.code yX8_init cX8_init 2 none, Cond.methodLink RX8 1 objectInit, Cond.fieldLink RX8 7 "WrongWordModel" "lane" "[I", Cond.fieldLink RX8 13 "WrongWordModel" "many" "[I", Cond.fieldLink RX8 16 "WrongWordModel" "items" "[I", Cond.fieldLink RX8 19 "WrongWordModel" "spare" "[I", Cond.fieldLink RX8 22 "WrongWordModel" "tape" "[I", Cond.fieldLink RX8 25 "WrongWordModel" "now" "[I", Cond.fieldLink RX8 28 "WrongWordModel" "draft" "[I", Cond.fieldLink RX8 31 "WrongWordModel" "tried" "[I", Cond.fieldLink RX8 34 "WrongWordModel" "past" "[I", Cond.fieldLink RX8 37 "WrongWordModel" "images" "[I", Cond.arrayClass .boolean]
def wsL_law_r5 : List Cond := [Cond.fieldLink RX8 40 "WrongWordModel" "kept" "[Z", Cond.fieldLink RX8 44 "WrongWordModel" "men" "[I", Cond.fieldLink RX8 47 "WrongWordModel" "trace" "[I", Cond.constant RX8 50 (-1000000), Cond.methodLink RL 13 yX7_row, Cond.instanceMethod yX7_row, Cond.selects RX7 yX7_row yX7_row, Cond.code yX7_row cX7_row 4 (some .int), Cond.constant RX7 59 (-1000001), Cond.methodLink RX7 55 yX7_isRow, Cond.instanceMethod yX7_isRow, Cond.selects RX7 yX7_isRow yX7_isRow, Cond.code yX7_isRow cX7_isRow 2 (some .boolean), Cond.methodLink RX7 60 yX7_found, Cond.instanceMethod yX7_found, Cond.selects RX7 yX7_found yX7_found, Cond.code yX7_found cX7_found 2 (some .int), Cond.fieldLink RX7 333 "WrongWord" "latestFinding" "I", Cond.constant RX7 336 (-1000010), Cond.methodLink RX7 64 yX5_make, Cond.instanceMethod yX5_make, Cond.selects RX5 yX5_make yX5_make, Cond.code yX5_make cX5_make 4 none, Cond.fieldLink RX5 19 "WrongWord$Row" "size" "I"]
def wsL_law_r6 : List Cond := [Cond.methodLink RX7 68 yX7_unfound, Cond.instanceMethod yX7_unfound, Cond.selects RX7 yX7_unfound yX7_unfound, Cond.code yX7_unfound cX7_unfound 2 (some .int), Cond.methodLink RL 17 yX8_row, Cond.instanceMethod yX8_row, Cond.selects RX8 yX8_row yX8_row, Cond.code yX8_row cX8_row 5 (some .int), Cond.constant RX8 64 (-1000001), Cond.methodLink RX8 60 yX8_isRow, Cond.static yX8_isRow, Cond.code yX8_isRow cX8_isRow 1 (some .boolean), Cond.methodLink RX8 56 yX8_in, Cond.static yX8_in, Cond.code yX8_in cX8_in 3 (some .boolean), Cond.methodLink RX8 65 yX8_found, Cond.instanceMethod yX8_found, Cond.selects RX8 yX8_found yX8_found, Cond.code yX8_found cX8_found 2 (some .int), Cond.fieldLink RX8 51 "WrongWordModel" "status" "I", Cond.constant RX8 55 (-1000010), Cond.methodLink RX8 69 yX8_well, Cond.instanceMethod yX8_well, Cond.selects RX8 yX8_well yX8_well]
def wsL_law_r7 : List Cond := [Cond.code yX8_well cX8_well 2 (some .int), Cond.methodLink RL 18 yX7_set, Cond.instanceMethod yX7_set, Cond.selects RX7 yX7_set yX7_set, Cond.code yX7_set cX7_set 5 (some .int), Cond.methodLink RX7 71 yX5_findingOf, Cond.instanceMethod yX5_findingOf, Cond.selects RX5 yX5_findingOf yX5_findingOf, Cond.code yX5_findingOf cX5_findingOf 3 (some .int), Cond.methodLink RX5 22 yX5_reaches, Cond.instanceMethod yX5_reaches, Cond.selects RX5 yX5_reaches yX5_reaches, Cond.code yX5_reaches cX5_reaches 3 (some .boolean), Cond.methodLink RX7 75 yX5_put, Cond.instanceMethod yX5_put, Cond.selects RX5 yX5_put yX5_put, Cond.code yX5_put cX5_put 3 (some .int), Cond.methodLink RL 21 yX8_set, Cond.instanceMethod yX8_set, Cond.selects RX8 yX8_set yX8_set, Cond.code yX8_set cX8_set 4 (some .int), Cond.methodLink RX8 72 yX8_isMissing, Cond.instanceMethod yX8_isMissing, Cond.selects RX8 yX8_isMissing yX8_isMissing]
def wsL_law_r8 : List Cond := [Cond.code yX8_isMissing cX8_isMissing 2 (some .boolean), Cond.methodLink RX8 75 yX8_cut, Cond.static yX8_cut, Cond.code yX8_cut cX8_cut 2 (some .int), Cond.methodLink RL 22 yX7_copy, Cond.instanceMethod yX7_copy, Cond.selects RX7 yX7_copy yX7_copy, Cond.code yX7_copy cX7_copy 8 (some .int), Cond.fieldLink RX7 78 "WrongWord$Row" "lane" "I", Cond.fieldLink RX7 86 "WrongWord$Row" "items" "[I", Cond.methodLink RX7 90 arraycopyName, Cond.native arraycopyName, Cond.static arraycopyName, Cond.initialized "java/lang/System", Cond.methodLink RX7 82 yX5_reaches, Cond.methodLink RL 26 yX8_copy, Cond.instanceMethod yX8_copy, Cond.selects RX8 yX8_copy yX8_copy, Cond.code yX8_copy cX8_copy 7 (some .int), Cond.methodLink RX8 79 yX8_isPart, Cond.instanceMethod yX8_isPart, Cond.selects RX8 yX8_isPart yX8_isPart, Cond.code yX8_isPart cX8_isPart 4 (some .boolean), Cond.methodLink RL 27 yX7_drop]
def wsL_law_r9 : List Cond := [Cond.instanceMethod yX7_drop, Cond.selects RX7 yX7_drop yX7_drop, Cond.code yX7_drop cX7_drop 2 (some .int), Cond.fieldLink RX7 96 "WrongWord$Row" "size" "I", Cond.methodLink RL 31 yX8_drop, Cond.instanceMethod yX8_drop, Cond.selects RX8 yX8_drop yX8_drop, Cond.code yX8_drop cX8_drop 2 (some .int), Cond.methodLink RL 32 yX7_feed, Cond.instanceMethod yX7_feed, Cond.selects RX7 yX7_feed yX7_feed, Cond.code yX7_feed cX7_feed 2 (some .int), Cond.fieldLink RX7 102 "WrongWord$Tape" "length" "I", Cond.constant RX7 105 (-1000003), Cond.methodLink RX7 99 yX6_append, Cond.instanceMethod yX6_append, Cond.selects RX6 yX6_append yX6_append, Cond.code yX6_append cX6_append 2 (some .boolean), Cond.fieldLink RX6 22 "WrongWord$Tape" "length" "I", Cond.methodLink RL 35 yX8_feed, Cond.instanceMethod yX8_feed, Cond.selects RX8 yX8_feed yX8_feed, Cond.code yX8_feed cX8_feed 2 (some .int), Cond.fieldLink RX8 82 "WrongWordModel" "taped" "I"]
def wsL_law_r10 : List Cond := [Cond.constant RX8 85 (-1000003), Cond.methodLink RL 36 yX7_gate, Cond.instanceMethod yX7_gate, Cond.selects RX7 yX7_gate yX7_gate, Cond.code yX7_gate cX7_gate 2 (some .int), Cond.fieldLink RX7 110 "WrongWord$Tape" "fault" "I", Cond.fieldLink RX7 113 "WrongWord" "latestFault" "I", Cond.constant RX7 116 (-1000100), Cond.fieldLink RX7 117 "WrongWord$Tape" "place" "I", Cond.fieldLink RX7 120 "WrongWord$Tape" "draft" "LWrongWord$Gate;", Cond.fieldLink RX7 130 "WrongWord$Gate" "words" "I", Cond.methodLink RX7 106 yX6_read, Cond.instanceMethod yX6_read, Cond.selects RX6 yX6_read yX6_read, Cond.code yX6_read cX6_read 2 (some .boolean), Cond.fieldLink RX6 26 "WrongWord$Tape" "at" "I", Cond.fieldLink RX6 29 "WrongWord$Gate" "words" "I", Cond.fieldLink RX6 32 "WrongWord$Gate" "guards" "I", Cond.fieldLink RX6 49 "WrongWord$Gate" "now" "LWrongWord$Moment;", Cond.methodLink RX6 35 yX6_readLaw, Cond.instanceMethod yX6_readLaw, Cond.selects RX6 yX6_readLaw yX6_readLaw, Cond.code yX6_readLaw cX6_readLaw 1 (some .boolean), Cond.fieldLink RX6 66 "WrongWord$Tape" "value" "I"]
def wsL_law_r11 : List Cond := [Cond.fieldLink RX6 69 "WrongWord$Moment" "start" "I", Cond.fieldLink RX6 72 "WrongWord$Gate" "step" "I", Cond.fieldLink RX6 75 "WrongWord$Gate" "shrove" "I", Cond.methodLink RX6 59 yX6_readSign, Cond.instanceMethod yX6_readSign, Cond.selects RX6 yX6_readSign yX6_readSign, Cond.code yX6_readSign cX6_readSign 2 (some .boolean), Cond.methodLink RX6 42 yX6_here, Cond.instanceMethod yX6_here, Cond.selects RX6 yX6_here yX6_here, Cond.code yX6_here cX6_here 1 (some .int), Cond.methodLink RX6 78 yX6_faulty, Cond.instanceMethod yX6_faulty, Cond.selects RX6 yX6_faulty yX6_faulty, Cond.code yX6_faulty cX6_faulty 2 (some .boolean), Cond.fieldLink RX6 105 "WrongWord$Tape" "fault" "I", Cond.fieldLink RX6 108 "WrongWord$Tape" "place" "I", Cond.methodLink RX6 63 yX6_readNumber, Cond.instanceMethod yX6_readNumber, Cond.selects RX6 yX6_readNumber yX6_readNumber, Cond.code yX6_readNumber cX6_readNumber 4 (some .boolean), Cond.methodLink RX6 102 yX6_isFigure, Cond.static yX6_isFigure, Cond.code yX6_isFigure cX6_isFigure 1 (some .boolean)]
def wsL_law_r12 : List Cond := [Cond.methodLink RX6 39 yX6_readWord, Cond.instanceMethod yX6_readWord, Cond.selects RX6 yX6_readWord yX6_readWord, Cond.code yX6_readWord cX6_readWord 3 (some .boolean), Cond.fieldLink RX6 81 "WrongWord$Gate" "letters" "[I", Cond.methodLink RX6 84 yX6_wasTold, Cond.instanceMethod yX6_wasTold, Cond.selects RX6 yX6_wasTold yX6_wasTold, Cond.code yX6_wasTold cX6_wasTold 3 (some .boolean), Cond.methodLink RX6 87 yX2_distance, Cond.instanceMethod yX2_distance, Cond.selects RX2 yX2_distance yX2_distance, Cond.code yX2_distance cX2_distance 5 (some .int), Cond.methodLink RX6 46 yX6_readGuard, Cond.instanceMethod yX6_readGuard, Cond.selects RX6 yX6_readGuard yX6_readGuard, Cond.code yX6_readGuard cX6_readGuard 2 (some .boolean), Cond.constant RX6 95 (-1000000), Cond.fieldLink RX6 96 "WrongWord$Gate" "kinds" "[I", Cond.fieldLink RX6 99 "WrongWord$Gate" "fees" "[I", Cond.methodLink RX6 91 yX6_kindOf, Cond.static yX6_kindOf, Cond.code yX6_kindOf cX6_kindOf 1 (some .int), Cond.methodLink RX6 53 yX4_begin]
def wsL_law_r13 : List Cond := [Cond.instanceMethod yX4_begin, Cond.selects RX4 yX4_begin yX4_begin, Cond.code yX4_begin cX4_begin 3 none, Cond.fieldLink RX4 24 "WrongWord$Moment" "night" "I", Cond.fieldLink RX4 28 "WrongWord$Moment" "there" "I", Cond.fieldLink RX4 31 "WrongWord$Moment" "tries" "I", Cond.methodLink RX7 123 yX2_become, Cond.instanceMethod yX2_become, Cond.selects RX2 yX2_become yX2_become, Cond.code yX2_become cX2_become 2 none, Cond.methodLink RX2 28 arraycopyName, Cond.fieldLink RX2 38 "WrongWord$Gate" "step" "I", Cond.fieldLink RX2 42 "WrongWord$Gate" "shrove" "I", Cond.fieldLink RX2 45 "WrongWord$Gate" "words" "I", Cond.fieldLink RX2 48 "WrongWord$Gate" "guards" "I", Cond.methodLink RX2 34 yX4_become, Cond.instanceMethod yX4_become, Cond.selects RX4 yX4_become yX4_become, Cond.code yX4_become cX4_become 2 none, Cond.fieldLink RX4 34 "WrongWord$Moment" "start" "I", Cond.methodLink RX4 37 arraycopyName, Cond.methodLink RX7 127 yX0_forget, Cond.instanceMethod yX0_forget, Cond.selects RX0 yX0_forget yX0_forget]
def wsL_law_r14 : List Cond := [Cond.code yX0_forget cX0_forget 1 none, Cond.fieldLink RX0 18 "WrongWord$Acts" "kept" "I", Cond.methodLink RL 40 yX8_gate, Cond.instanceMethod yX8_gate, Cond.selects RX8 yX8_gate yX8_gate, Cond.code yX8_gate cX8_gate 2 (some .int), Cond.fieldLink RX8 86 "WrongWordModel" "at" "I", Cond.fieldLink RX8 101 "WrongWordModel" "faultPlace" "I", Cond.fieldLink RX8 98 "WrongWordModel" "token" "I", Cond.fieldLink RX8 95 "WrongWordModel" "value" "I", Cond.constant RX8 144 (-1000100), Cond.fieldLink RX8 149 "WrongWordModel" "acts" "I", Cond.methodLink RX8 111 yX8_advances, Cond.instanceMethod yX8_advances, Cond.selects RX8 yX8_advances yX8_advances, Cond.code yX8_advances cX8_advances 2 none, Cond.fieldLink RX8 89 "WrongWordModel" "start" "I", Cond.methodLink RX8 92 yX8_byteAt, Cond.instanceMethod yX8_byteAt, Cond.selects RX8 yX8_byteAt yX8_byteAt, Cond.code yX8_byteAt cX8_byteAt 2 (some .int), Cond.methodLink RX8 114 yX8_takes, Cond.instanceMethod yX8_takes, Cond.selects RX8 yX8_takes yX8_takes]
def wsL_law_r15 : List Cond := [Cond.code yX8_takes cX8_takes 4 (some .int), Cond.fieldLink RX8 108 "WrongWordModel" "faultKind" "I", Cond.methodLink RX8 104 yX8_isWell, Cond.instanceMethod yX8_isWell, Cond.selects RX8 yX8_isWell yX8_isWell, Cond.code yX8_isWell cX8_isWell 1 (some .boolean), Cond.methodLink RX8 118 yX8_figure, Cond.instanceMethod yX8_figure, Cond.selects RX8 yX8_figure yX8_figure, Cond.code yX8_figure cX8_figure 3 (some .int), Cond.methodLink RX8 131 yX8_follows, Cond.instanceMethod yX8_follows, Cond.selects RX8 yX8_follows yX8_follows, Cond.code yX8_follows cX8_follows 3 (some .int), Cond.methodLink RX8 134 yX8_must, Cond.instanceMethod yX8_must, Cond.selects RX8 yX8_must yX8_must, Cond.code yX8_must cX8_must 2 none, Cond.methodLink RX8 138 yX8_readsWord, Cond.instanceMethod yX8_readsWord, Cond.selects RX8 yX8_readsWord yX8_readsWord, Cond.code yX8_readsWord cX8_readsWord 5 none, Cond.methodLink RX8 121 yX8_letterOf, Cond.instanceMethod yX8_letterOf]
def wsL_law_r16 : List Cond := [Cond.selects RX8 yX8_letterOf yX8_letterOf, Cond.code yX8_letterOf cX8_letterOf 1 (some .int), Cond.methodLink RX8 125 yX8_isTold, Cond.instanceMethod yX8_isTold, Cond.selects RX8 yX8_isTold yX8_isTold, Cond.code yX8_isTold cX8_isTold 7 (some .boolean), Cond.methodLink RX8 128 yX8_kindOf, Cond.static yX8_kindOf, Cond.code yX8_kindOf cX8_kindOf 1 (some .int), Cond.methodLink RX8 141 yX8_readsGuard, Cond.instanceMethod yX8_readsGuard, Cond.selects RX8 yX8_readsGuard yX8_readsGuard, Cond.code yX8_readsGuard cX8_readsGuard 4 none, Cond.methodLink RX8 145 yX8_copies, Cond.static yX8_copies, Cond.code yX8_copies cX8_copies 5 none, Cond.methodLink RL 41 yX7_fault, Cond.instanceMethod yX7_fault, Cond.selects RX7 yX7_fault yX7_fault, Cond.code yX7_fault cX7_fault 1 (some .int), Cond.methodLink RL 44 yX8_fault, Cond.instanceMethod yX8_fault, Cond.selects RX8 yX8_fault yX8_fault, Cond.code yX8_fault cX8_fault 1 (some .int)]
def wsL_law_r17 : List Cond := [Cond.methodLink RL 45 yX7_nights, Cond.instanceMethod yX7_nights, Cond.selects RX7 yX7_nights yX7_nights, Cond.code yX7_nights cX7_nights 3 (some .int), Cond.constant RX7 136 (-1000002), Cond.fieldLink RX7 137 "WrongWord$Gate" "now" "LWrongWord$Moment;", Cond.fieldLink RX7 141 "WrongWord$Moment" "night" "I", Cond.methodLink RX7 133 yX7_noGate, Cond.instanceMethod yX7_noGate, Cond.selects RX7 yX7_noGate yX7_noGate, Cond.code yX7_noGate cX7_noGate 1 (some .boolean), Cond.methodLink RX7 146 yX0_keep, Cond.instanceMethod yX0_keep, Cond.selects RX0 yX0_keep yX0_keep, Cond.code yX0_keep cX0_keep 2 none, Cond.fieldLink RX0 22 "WrongWord$Acts" "at" "I", Cond.methodLink RX0 29 Lib.Math.min.name, Cond.static Lib.Math.min.name, Cond.initialized "java/lang/Math", Cond.code Lib.Math.min.name Lib.Math.min.code 2 (some .int), Cond.methodLink RX0 25 yX4_become, Cond.methodLink RX7 150 yX4_goBy, Cond.instanceMethod yX4_goBy, Cond.selects RX4 yX4_goBy yX4_goBy]
def wsL_law_r18 : List Cond := [Cond.code yX4_goBy cX4_goBy 1 none, Cond.methodLink RX7 153 yX2_secretIn, Cond.instanceMethod yX2_secretIn, Cond.selects RX2 yX2_secretIn yX2_secretIn, Cond.code yX2_secretIn cX2_secretIn 2 (some .int), Cond.fieldLink RX2 55 "WrongWord$Moment" "start" "I", Cond.fieldLink RX2 58 "WrongWord$Moment" "night" "I", Cond.methodLink RX2 61 yX2_secretBy, Cond.instanceMethod yX2_secretBy, Cond.selects RX2 yX2_secretBy yX2_secretBy, Cond.code yX2_secretBy cX2_secretBy 5 (some .int), Cond.static yX7_rest, Cond.code yX7_rest cX7_rest 2 (some .int), Cond.methodLink RL 48 yX8_nights, Cond.instanceMethod yX8_nights, Cond.selects RX8 yX8_nights yX8_nights, Cond.code yX8_nights cX8_nights 3 (some .int), Cond.constant RX8 183 (-1000002), Cond.methodLink RX8 180 yX8_isGate, Cond.instanceMethod yX8_isGate, Cond.selects RX8 yX8_isGate yX8_isGate, Cond.code yX8_isGate cX8_isGate 1 (some .boolean), Cond.methodLink RX8 184 yX8_notes, Cond.instanceMethod yX8_notes]
def wsL_law_r19 : List Cond := [Cond.selects RX8 yX8_notes yX8_notes, Cond.code yX8_notes cX8_notes 2 none, Cond.methodLink RX8 187 yX8_forgets, Cond.instanceMethod yX8_forgets, Cond.selects RX8 yX8_forgets yX8_forgets, Cond.code yX8_forgets cX8_forgets 2 none, Cond.methodLink RX8 172 yX8_secretOf, Cond.static yX8_secretOf, Cond.code yX8_secretOf cX8_secretOf 2 (some .int), Cond.methodLink RL 49 yX7_say, Cond.instanceMethod yX7_say, Cond.selects RX7 yX7_say yX7_say, Cond.code yX7_say cX7_say 5 (some .int), Cond.fieldLink RX7 162 "WrongWord$Moment" "tries" "I", Cond.constant RX7 175 (-1000000), Cond.methodLink RX7 156 yX7_isWord, Cond.instanceMethod yX7_isWord, Cond.selects RX7 yX7_isWord yX7_isWord, Cond.code yX7_isWord cX7_isWord 2 (some .boolean), Cond.methodLink RX7 159 yX7_isHour, Cond.instanceMethod yX7_isHour, Cond.selects RX7 yX7_isHour yX7_isHour, Cond.code yX7_isHour cX7_isHour 2 (some .boolean), Cond.methodLink RX7 165 yX2_guardOn]
def wsL_law_r20 : List Cond := [Cond.instanceMethod yX2_guardOn, Cond.selects RX2 yX2_guardOn yX2_guardOn, Cond.code yX2_guardOn cX2_guardOn 3 (some .int), Cond.methodLink RX7 168 yX2_catches, Cond.instanceMethod yX2_catches, Cond.selects RX2 yX2_catches yX2_catches, Cond.code yX2_catches cX2_catches 4 (some .boolean), Cond.methodLink RX2 85 yX2_secretIn, Cond.methodLink RX2 89 yX2_catchesIf, Cond.instanceMethod yX2_catchesIf, Cond.selects RX2 yX2_catchesIf yX2_catchesIf, Cond.code yX2_catchesIf cX2_catchesIf 6 (some .boolean), Cond.methodLink RX2 74 yX2_guardOn, Cond.methodLink RX2 77 yX2_isThere, Cond.instanceMethod yX2_isThere, Cond.selects RX2 yX2_isThere yX2_isThere, Cond.code yX2_isThere cX2_isThere 2 (some .boolean), Cond.fieldLink RX2 65 "WrongWord$Moment" "there" "I", Cond.methodLink RX2 81 yX2_wouldTake, Cond.instanceMethod yX2_wouldTake, Cond.selects RX2 yX2_wouldTake yX2_wouldTake, Cond.code yX2_wouldTake cX2_wouldTake 5 (some .boolean), Cond.methodLink RX2 68 yX2_distance, Cond.methodLink RX2 71 yX2_lips]
def wsL_law_r21 : List Cond := [Cond.instanceMethod yX2_lips, Cond.selects RX2 yX2_lips yX2_lips, Cond.code yX2_lips cX2_lips 5 (some .int), Cond.methodLink RX7 172 yX2_isThere, Cond.methodLink RX7 176 yX4_addTry, Cond.instanceMethod yX4_addTry, Cond.selects RX4 yX4_addTry yX4_addTry, Cond.code yX4_addTry cX4_addTry 4 none, Cond.static yX7_bit, Cond.code yX7_bit cX7_bit 1 (some .int), Cond.methodLink RX7 180 yX7_bit, Cond.methodLink RL 53 yX8_say, Cond.instanceMethod yX8_say, Cond.selects RX8 yX8_say yX8_say, Cond.code yX8_say cX8_say 6 (some .int), Cond.methodLink RX8 190 yX8_isWord, Cond.instanceMethod yX8_isWord, Cond.selects RX8 yX8_isWord yX8_isWord, Cond.code yX8_isWord cX8_isWord 2 (some .boolean), Cond.methodLink RX8 193 yX8_isHour, Cond.static yX8_isHour, Cond.code yX8_isHour cX8_isHour 1 (some .boolean), Cond.methodLink RX8 158 yX8_guardOn, Cond.instanceMethod yX8_guardOn]
def wsL_law_r22 : List Cond := [Cond.selects RX8 yX8_guardOn yX8_guardOn, Cond.code yX8_guardOn cX8_guardOn 3 (some .int), Cond.methodLink RX8 196 yX8_isTakenNow, Cond.instanceMethod yX8_isTakenNow, Cond.selects RX8 yX8_isTakenNow yX8_isTakenNow, Cond.code yX8_isTakenNow cX8_isTakenNow 5 (some .boolean), Cond.methodLink RX8 176 yX8_isTaken, Cond.instanceMethod yX8_isTaken, Cond.selects RX8 yX8_isTaken yX8_isTaken, Cond.code yX8_isTaken cX8_isTaken 7 (some .boolean), Cond.methodLink RX8 161 yX8_has, Cond.static yX8_has, Cond.code yX8_has cX8_has 2 (some .boolean), Cond.methodLink RX8 165 yX8_kindIn, Cond.instanceMethod yX8_kindIn, Cond.selects RX8 yX8_kindIn yX8_kindIn, Cond.code yX8_kindIn cX8_kindIn 2 (some .int), Cond.methodLink RX8 168 yX8_takesBy, Cond.instanceMethod yX8_takesBy, Cond.selects RX8 yX8_takesBy yX8_takesBy, Cond.code yX8_takesBy cX8_takesBy 5 (some .boolean), Cond.methodLink RX8 152 yX8_distance, Cond.instanceMethod yX8_distance, Cond.selects RX8 yX8_distance yX8_distance]
def wsL_law_r23 : List Cond := [Cond.code yX8_distance cX8_distance 5 (some .int), Cond.methodLink RX8 155 yX8_lips, Cond.instanceMethod yX8_lips, Cond.selects RX8 yX8_lips yX8_lips, Cond.code yX8_lips cX8_lips 5 (some .int), Cond.methodLink RL 54 yX7_start, Cond.instanceMethod yX7_start, Cond.selects RX7 yX7_start yX7_start, Cond.code yX7_start cX7_start 3 (some .int), Cond.fieldLink RX7 184 "WrongWord$Moment" "start" "I", Cond.methodLink RL 57 yX8_start, Cond.instanceMethod yX8_start, Cond.selects RX8 yX8_start yX8_start, Cond.code yX8_start cX8_start 3 (some .int), Cond.methodLink RL 58 yX7_dismiss, Cond.instanceMethod yX7_dismiss, Cond.selects RX7 yX7_dismiss yX7_dismiss, Cond.code yX7_dismiss cX7_dismiss 3 (some .int), Cond.fieldLink RX7 190 "WrongWord$Moment" "there" "I", Cond.methodLink RX7 187 yX7_isGuard, Cond.instanceMethod yX7_isGuard, Cond.selects RX7 yX7_isGuard yX7_isGuard, Cond.code yX7_isGuard cX7_isGuard 2 (some .boolean), Cond.fieldLink RX7 327 "WrongWord$Gate" "guards" "I"]
def wsL_law_r24 : List Cond := [Cond.methodLink RL 61 yX8_dismiss, Cond.instanceMethod yX8_dismiss, Cond.selects RX8 yX8_dismiss yX8_dismiss, Cond.code yX8_dismiss cX8_dismiss 3 (some .int), Cond.methodLink RX8 199 yX8_isGuard, Cond.instanceMethod yX8_isGuard, Cond.selects RX8 yX8_isGuard yX8_isGuard, Cond.code yX8_isGuard cX8_isGuard 2 (some .boolean), Cond.methodLink RL 62 yX7_undo, Cond.instanceMethod yX7_undo, Cond.selects RX7 yX7_undo yX7_undo, Cond.code yX7_undo cX7_undo 1 (some .int), Cond.fieldLink RX7 197 "WrongWord$Acts" "kept" "I", Cond.methodLink RX7 193 yX0_takeBack, Cond.instanceMethod yX0_takeBack, Cond.selects RX0 yX0_takeBack yX0_takeBack, Cond.code yX0_takeBack cX0_takeBack 2 (some .boolean), Cond.methodLink RL 65 yX8_undo, Cond.instanceMethod yX8_undo, Cond.selects RX8 yX8_undo yX8_undo, Cond.code yX8_undo cX8_undo 1 (some .int), Cond.methodLink RL 66 yX7_letter, Cond.instanceMethod yX7_letter, Cond.selects RX7 yX7_letter yX7_letter]
def wsL_law_r25 : List Cond := [Cond.code yX7_letter cX7_letter 3 (some .int), Cond.fieldLink RX7 200 "WrongWord$Gate" "letters" "[I", Cond.methodLink RL 69 yX8_letter, Cond.instanceMethod yX8_letter, Cond.selects RX8 yX8_letter yX8_letter, Cond.code yX8_letter cX8_letter 3 (some .int), Cond.methodLink RL 70 yX7_like, Cond.instanceMethod yX7_like, Cond.selects RX7 yX7_like yX7_like, Cond.code yX7_like cX7_like 4 (some .int), Cond.methodLink RX7 203 yX2_distance, Cond.methodLink RX7 206 yX2_lips, Cond.methodLink RL 73 yX8_like, Cond.instanceMethod yX8_like, Cond.selects RX8 yX8_like yX8_like, Cond.code yX8_like cX8_like 4 (some .int), Cond.methodLink RL 74 yX7_guard, Cond.instanceMethod yX7_guard, Cond.selects RX7 yX7_guard yX7_guard, Cond.code yX7_guard cX7_guard 3 (some .int), Cond.fieldLink RX7 209 "WrongWord$Gate" "fees" "[I", Cond.fieldLink RX7 212 "WrongWord$Moment" "took" "[I", Cond.methodLink RX7 215 yX2_hoursOf, Cond.instanceMethod yX2_hoursOf]
def wsL_law_r26 : List Cond := [Cond.selects RX2 yX2_hoursOf yX2_hoursOf, Cond.code yX2_hoursOf cX2_hoursOf 4 (some .int), Cond.methodLink RL 77 yX8_guard, Cond.instanceMethod yX8_guard, Cond.selects RX8 yX8_guard yX8_guard, Cond.code yX8_guard cX8_guard 3 (some .int), Cond.methodLink RX8 202 yX8_hoursOf, Cond.instanceMethod yX8_hoursOf, Cond.selects RX8 yX8_hoursOf yX8_hoursOf, Cond.code yX8_hoursOf cX8_hoursOf 4 (some .int), Cond.methodLink RL 78 yX7_tried, Cond.instanceMethod yX7_tried, Cond.selects RX7 yX7_tried yX7_tried, Cond.code yX7_tried cX7_tried 3 (some .int), Cond.fieldLink RX7 218 "WrongWord$Moment" "triedWord" "[I", Cond.fieldLink RX7 221 "WrongWord$Moment" "triedGuard" "[I", Cond.fieldLink RX7 224 "WrongWord$Moment" "triedTaken" "[I", Cond.methodLink RL 81 yX8_tried, Cond.instanceMethod yX8_tried, Cond.selects RX8 yX8_tried yX8_tried, Cond.code yX8_tried cX8_tried 4 (some .int), Cond.methodLink RL 82 yX7_secret, Cond.instanceMethod yX7_secret, Cond.selects RX7 yX7_secret yX7_secret]
def wsL_law_r27 : List Cond := [Cond.code yX7_secret cX7_secret 2 (some .int), Cond.methodLink RX7 227 yX7_isAhead, Cond.instanceMethod yX7_isAhead, Cond.selects RX7 yX7_isAhead yX7_isAhead, Cond.code yX7_isAhead cX7_isAhead 2 (some .boolean), Cond.methodLink RL 85 yX8_secret, Cond.instanceMethod yX8_secret, Cond.selects RX8 yX8_secret yX8_secret, Cond.code yX8_secret cX8_secret 2 (some .int), Cond.methodLink RX8 205 yX8_isFar, Cond.static yX8_isFar, Cond.code yX8_isFar cX8_isFar 1 (some .boolean), Cond.methodLink RL 86 yX7_taken, Cond.instanceMethod yX7_taken, Cond.selects RX7 yX7_taken yX7_taken, Cond.code yX7_taken cX7_taken 4 (some .int), Cond.methodLink RL 89 yX8_taken, Cond.instanceMethod yX8_taken, Cond.selects RX8 yX8_taken yX8_taken, Cond.code yX8_taken cX8_taken 4 (some .int), Cond.methodLink RL 90 yX7_safe, Cond.instanceMethod yX7_safe, Cond.selects RX7 yX7_safe yX7_safe, Cond.code yX7_safe cX7_safe 3 (some .int)]
def wsL_law_r28 : List Cond := [Cond.methodLink RX7 230 yX2_wordsIn, Cond.instanceMethod yX2_wordsIn, Cond.selects RX2 yX2_wordsIn yX2_wordsIn, Cond.code yX2_wordsIn cX2_wordsIn 5 (some .int), Cond.methodLink RX2 96 yX2_catches, Cond.methodLink RL 93 yX8_safe, Cond.instanceMethod yX8_safe, Cond.selects RX8 yX8_safe yX8_safe, Cond.code yX8_safe cX8_safe 5 (some .int), Cond.methodLink RL 94 yX7_open, Cond.instanceMethod yX7_open, Cond.selects RX7 yX7_open yX7_open, Cond.code yX7_open cX7_open 3 (some .int), Cond.methodLink RX7 233 yX7_areWords, Cond.instanceMethod yX7_areWords, Cond.selects RX7 yX7_areWords yX7_areWords, Cond.code yX7_areWords cX7_areWords 2 (some .boolean), Cond.methodLink RX7 236 yX2_hoursOpen, Cond.instanceMethod yX2_hoursOpen, Cond.selects RX2 yX2_hoursOpen yX2_hoursOpen, Cond.code yX2_hoursOpen cX2_hoursOpen 5 (some .int), Cond.methodLink RX2 100 yX2_wordsIn, Cond.methodLink RL 97 yX8_open, Cond.instanceMethod yX8_open]
def wsL_law_r29 : List Cond := [Cond.selects RX8 yX8_open yX8_open, Cond.code yX8_open cX8_open 5 (some .int), Cond.methodLink RX8 208 yX8_areWords, Cond.instanceMethod yX8_areWords, Cond.selects RX8 yX8_areWords yX8_areWords, Cond.code yX8_areWords cX8_areWords 2 (some .boolean), Cond.methodLink RX8 211 yX8_areIn, Cond.instanceMethod yX8_areIn, Cond.selects RX8 yX8_areIn yX8_areIn, Cond.code yX8_areIn cX8_areIn 8 (some .boolean), Cond.methodLink RL 98 yX7_next, Cond.instanceMethod yX7_next, Cond.selects RX7 yX7_next yX7_next, Cond.code yX7_next cX7_next 2 (some .int), Cond.methodLink RX7 239 yX2_nightsUntil, Cond.instanceMethod yX2_nightsUntil, Cond.selects RX2 yX2_nightsUntil yX2_nightsUntil, Cond.code yX2_nightsUntil cX2_nightsUntil 3 (some .int), Cond.constant RX2 103 (-1000000), Cond.methodLink RL 101 yX8_next, Cond.instanceMethod yX8_next, Cond.selects RX8 yX8_next yX8_next, Cond.code yX8_next cX8_next 3 (some .int), Cond.methodLink RL 102 yX7_agree]
def wsL_law_r30 : List Cond := [Cond.instanceMethod yX7_agree, Cond.selects RX7 yX7_agree yX7_agree, Cond.code yX7_agree cX7_agree 1 (some .int), Cond.methodLink RX7 242 yX3_agreeing, Cond.static yX3_agreeing, Cond.code yX3_agreeing cX3_agreeing 3 (some .int), Cond.fieldLink RX3 18 "WrongWord$Gate" "words" "I", Cond.methodLink RX3 24 yX3_agreesWithTries, Cond.static yX3_agreesWithTries, Cond.code yX3_agreesWithTries cX3_agreesWithTries 6 (some .boolean), Cond.fieldLink RX3 32 "WrongWord$Gate" "now" "LWrongWord$Moment;", Cond.fieldLink RX3 36 "WrongWord$Moment" "tries" "I", Cond.fieldLink RX3 41 "WrongWord$Moment" "triedGuard" "[I", Cond.fieldLink RX3 44 "WrongWord$Gate" "guards" "I", Cond.fieldLink RX3 47 "WrongWord$Gate" "kinds" "[I", Cond.fieldLink RX3 50 "WrongWord$Moment" "triedWord" "[I", Cond.fieldLink RX3 53 "WrongWord$Moment" "night" "I", Cond.fieldLink RX3 60 "WrongWord$Moment" "triedTaken" "[I", Cond.methodLink RX3 56 yX2_wouldTake, Cond.methodLink RL 105 yX8_agree, Cond.instanceMethod yX8_agree, Cond.selects RX8 yX8_agree yX8_agree, Cond.code yX8_agree cX8_agree 1 (some .int), Cond.methodLink RX8 214 yX8_agreeing]
def wsL_law_r31 : List Cond := [Cond.instanceMethod yX8_agreeing, Cond.selects RX8 yX8_agreeing yX8_agreeing, Cond.code yX8_agreeing cX8_agreeing 6 (some .int), Cond.methodLink RL 106 yX7_man, Cond.instanceMethod yX7_man, Cond.selects RX7 yX7_man yX7_man, Cond.code yX7_man cX7_man 4 (some .int), Cond.methodLink RX7 246 yX3_bestTry, Cond.static yX3_bestTry, Cond.code yX3_bestTry cX3_bestTry 6 (some .int), Cond.methodLink RX3 82 yX3_leftAtWorst, Cond.static yX3_leftAtWorst, Cond.code yX3_leftAtWorst cX3_leftAtWorst 4 (some .int), Cond.methodLink RX3 76 Lib.Math.max.name, Cond.static Lib.Math.max.name, Cond.code Lib.Math.max.name Lib.Math.max.code 2 (some .int), Cond.methodLink RX3 66 yX3_secretsCatching, Cond.static yX3_secretsCatching, Cond.code yX3_secretsCatching cX3_secretsCatching 5 (some .int), Cond.methodLink RX3 63 yX2_catchesIf, Cond.methodLink RX3 70 yJ6_bitCount_0f7a4, Cond.static yJ6_bitCount_0f7a4, Cond.initialized RJ6, Cond.code yJ6_bitCount_0f7a4 cJ6_bitCount_0f7a4 1 (some .int)]
def wsL_law_r32 : List Cond := [Cond.constant RJ6 265 (1431655765), Cond.constant RJ6 266 (858993459), Cond.constant RJ6 267 (252645135), Cond.methodLink RX7 250 yX3_leftAtWorst, Cond.methodLink RL 109 yX8_man, Cond.instanceMethod yX8_man, Cond.selects RX8 yX8_man yX8_man, Cond.code yX8_man cX8_man 11 (some .int), Cond.methodLink RX8 217 yX8_ones, Cond.static yX8_ones, Cond.code yX8_ones cX8_ones 3 (some .int), Cond.methodLink RX8 220 yX8_takenOf, Cond.instanceMethod yX8_takenOf, Cond.selects RX8 yX8_takenOf yX8_takenOf, Cond.code yX8_takenOf cX8_takenOf 6 (some .int), Cond.methodLink RL 110 yX7_fewest, Cond.instanceMethod yX7_fewest, Cond.selects RX7 yX7_fewest yX7_fewest, Cond.code yX7_fewest cX7_fewest 1 (some .int), Cond.methodLink RX7 254 yX3_fewestMen, Cond.instanceMethod yX3_fewestMen, Cond.selects RX3 yX3_fewestMen yX3_fewestMen, Cond.code yX3_fewestMen cX3_fewestMen 5 (some .int), Cond.constant RX3 88 (-1000000)]
def wsL_law_r33 : List Cond := [Cond.methodLink RX3 85 yX3_menToSplit, Cond.instanceMethod yX3_menToSplit, Cond.selects RX3 yX3_menToSplit yX3_menToSplit, Cond.code yX3_menToSplit cX3_menToSplit 6 (some .int), Cond.methodLink RX3 89 Lib.Math.min.name, Cond.methodLink RL 113 yX8_fewest, Cond.instanceMethod yX8_fewest, Cond.selects RX8 yX8_fewest yX8_fewest, Cond.code yX8_fewest cX8_fewest 3 (some .int), Cond.methodLink RX8 224 yX8_menFor, Cond.instanceMethod yX8_menFor, Cond.selects RX8 yX8_menFor yX8_menFor, Cond.code yX8_menFor cX8_menFor 8 (some .int), Cond.methodLink RL 114 yX7_march, Cond.instanceMethod yX7_march, Cond.selects RX7 yX7_march yX7_march, Cond.code yX7_march cX7_march 6 (some .int), Cond.methodLink RX7 257 yX7_hourOfLast, Cond.instanceMethod yX7_hourOfLast, Cond.selects RX7 yX7_hourOfLast yX7_hourOfLast, Cond.code yX7_hourOfLast cX7_hourOfLast 7 (some .int), Cond.methodLink RX7 337 yX2_hourIn, Cond.instanceMethod yX2_hourIn, Cond.selects RX2 yX2_hourIn yX2_hourIn]
def wsL_law_r34 : List Cond := [Cond.code yX2_hourIn cX2_hourIn 4 (some .int), Cond.methodLink RL 118 yX8_march, Cond.instanceMethod yX8_march, Cond.selects RX8 yX8_march yX8_march, Cond.code yX8_march cX8_march 9 (some .int), Cond.methodLink RL 119 yX7_cheap, Cond.instanceMethod yX7_cheap, Cond.selects RX7 yX7_cheap yX7_cheap, Cond.code yX7_cheap cX7_cheap 5 (some .int), Cond.methodLink RX7 261 yX2_guardsAgainst, Cond.instanceMethod yX2_guardsAgainst, Cond.selects RX2 yX2_guardsAgainst yX2_guardsAgainst, Cond.code yX2_guardsAgainst cX2_guardsAgainst 5 (some .int), Cond.methodLink RX7 264 yX2_feeOf, Cond.instanceMethod yX2_feeOf, Cond.selects RX2 yX2_feeOf yX2_feeOf, Cond.code yX2_feeOf cX2_feeOf 4 (some .int), Cond.methodLink RL 122 yX8_cheap, Cond.instanceMethod yX8_cheap, Cond.selects RX8 yX8_cheap yX8_cheap, Cond.code yX8_cheap cX8_cheap 10 (some .int), Cond.methodLink RL 123 yX7_near, Cond.instanceMethod yX7_near, Cond.selects RX7 yX7_near yX7_near]
def wsL_law_r35 : List Cond := [Cond.code yX7_near cX7_near 4 (some .int), Cond.methodLink RX7 267 yX2_nearestTo, Cond.instanceMethod yX2_nearestTo, Cond.selects RX2 yX2_nearestTo yX2_nearestTo, Cond.code yX2_nearestTo cX2_nearestTo 5 (some .int), Cond.methodLink RL 126 yX8_near, Cond.instanceMethod yX8_near, Cond.selects RX8 yX8_near yX8_near, Cond.code yX8_near cX8_near 5 (some .int), Cond.methodLink RL 127 yX7_rules, Cond.instanceMethod yX7_rules, Cond.selects RX7 yX7_rules yX7_rules, Cond.code yX7_rules cX7_rules 6 (some .int), Cond.methodLink RX7 270 yX7_rulesThatTell, Cond.instanceMethod yX7_rulesThatTell, Cond.selects RX7 yX7_rulesThatTell yX7_rulesThatTell, Cond.code yX7_rulesThatTell cX7_rulesThatTell 13 (some .int), Cond.fieldLink RX7 340 "WrongWord$Gate" "step" "I", Cond.fieldLink RX7 343 "WrongWord$Gate" "shrove" "I", Cond.methodLink RX7 346 yX2_secretBy, Cond.methodLink RL 130 yX8_rules, Cond.instanceMethod yX8_rules, Cond.selects RX8 yX8_rules yX8_rules, Cond.code yX8_rules cX8_rules 9 (some .int)]
def wsL_law_r36 : List Cond := [Cond.methodLink RL 131 yX7_fits, Cond.instanceMethod yX7_fits, Cond.selects RX7 yX7_fits yX7_fits, Cond.code yX7_fits cX7_fits 6 (some .int), Cond.fieldLink RX7 278 "WrongWord$Gate" "kinds" "[I", Cond.methodLink RX7 274 yX7_kindsThatFit, Cond.instanceMethod yX7_kindsThatFit, Cond.selects RX7 yX7_kindsThatFit yX7_kindsThatFit, Cond.code yX7_kindsThatFit cX7_kindsThatFit 6 (some .int), Cond.methodLink RX7 350 yX7_fitsTold, Cond.instanceMethod yX7_fitsTold, Cond.selects RX7 yX7_fitsTold yX7_fitsTold, Cond.code yX7_fitsTold cX7_fitsTold 6 (some .boolean), Cond.methodLink RX7 354 yX2_wouldTake, Cond.methodLink RX7 281 yX7_secretsThatFit, Cond.instanceMethod yX7_secretsThatFit, Cond.selects RX7 yX7_secretsThatFit yX7_secretsThatFit, Cond.code yX7_secretsThatFit cX7_secretsThatFit 6 (some .int), Cond.methodLink RL 134 yX8_fits, Cond.instanceMethod yX8_fits, Cond.selects RX8 yX8_fits yX8_fits, Cond.code yX8_fits cX8_fits 8 (some .int), Cond.methodLink RX8 227 yX8_takesSo, Cond.instanceMethod yX8_takesSo]
def wsL_law_r37 : List Cond := [Cond.selects RX8 yX8_takesSo yX8_takesSo, Cond.code yX8_takesSo cX8_takesSo 6 (some .boolean), Cond.methodLink RL 135 yX7_sure, Cond.instanceMethod yX7_sure, Cond.selects RX7 yX7_sure yX7_sure, Cond.code yX7_sure cX7_sure 10 (some .int), Cond.methodLink RX7 285 yJ6_bitCount_0f7a4, Cond.methodLink RX7 290 yX3_secretsCatching, Cond.methodLink RX7 293 yX7_commonDivisor, Cond.static yX7_commonDivisor, Cond.code yX7_commonDivisor cX7_commonDivisor 3 (some .int), Cond.methodLink RX7 296 yX7_lowest, Cond.static yX7_lowest, Cond.code yX7_lowest cX7_lowest 2 (some .int), Cond.methodLink RL 138 yX8_sure, Cond.instanceMethod yX8_sure, Cond.selects RX8 yX8_sure yX8_sure, Cond.code yX8_sure cX8_sure 12 (some .int), Cond.methodLink RL 139 yX7_drawn, Cond.instanceMethod yX7_drawn, Cond.selects RX7 yX7_drawn yX7_drawn, Cond.code yX7_drawn cX7_drawn 10 (some .int), Cond.constant RX7 299 (999999), Cond.constantLong RX7 300 (16807)]
def wsL_law_r38 : List Cond := [Cond.constantLong RX7 302 (2147483647), Cond.methodLink RX7 304 yX7_rest, Cond.methodLink RL 142 yX8_drawn, Cond.instanceMethod yX8_drawn, Cond.selects RX8 yX8_drawn yX8_drawn, Cond.code yX8_drawn cX8_drawn 11 (some .int), Cond.constant RX8 230 (999999), Cond.constantLong RX8 231 (16807), Cond.constantLong RX8 233 (2147483647), Cond.constantLong RX8 235 (6), Cond.methodLink RL 143 yX7_image, Cond.instanceMethod yX7_image, Cond.selects RX7 yX7_image yX7_image, Cond.code yX7_image cX7_image 2 (some .int), Cond.methodLink RL 146 yX8_image, Cond.instanceMethod yX8_image, Cond.selects RX8 yX8_image yX8_image, Cond.code yX8_image cX8_image 2 (some .int), Cond.methodLink RL 147 yX7_restore, Cond.instanceMethod yX7_restore, Cond.selects RX7 yX7_restore yX7_restore, Cond.code yX7_restore cX7_restore 2 (some .int), Cond.methodLink RL 150 yX8_restore, Cond.instanceMethod yX8_restore]
def wsL_law_r39 : List Cond := [Cond.selects RX8 yX8_restore yX8_restore, Cond.code yX8_restore cX8_restore 2 (some .int), Cond.methodLink RL 151 yX7_kind, Cond.instanceMethod yX7_kind, Cond.selects RX7 yX7_kind yX7_kind, Cond.code yX7_kind cX7_kind 2 (some .int), Cond.methodLink RL 154 yX8_kind, Cond.instanceMethod yX8_kind, Cond.selects RX8 yX8_kind yX8_kind, Cond.code yX8_kind cX8_kind 2 (some .int), Cond.methodLink RL 155 yX7_as, Cond.instanceMethod yX7_as, Cond.selects RX7 yX7_as yX7_as, Cond.code yX7_as cX7_as 3 (some .int), Cond.methodLink RX7 307 yX1_isA, Cond.static yX1_isA, Cond.code yX1_isA cX1_isA 4 (some .boolean), Cond.fieldLink RX1 15 "WrongWord$Asks" "NEAREST_ABOVE" "[I", Cond.methodLink RL 158 yX8_as, Cond.instanceMethod yX8_as, Cond.selects RX8 yX8_as yX8_as, Cond.code yX8_as cX8_as 5 (some .int), Cond.methodLink RL 159 yX7_ask, Cond.instanceMethod yX7_ask]
def wsL_law_r40 : List Cond := [Cond.selects RX7 yX7_ask yX7_ask, Cond.code yX7_ask cX7_ask 3 (some .int), Cond.methodLink RX7 310 yX1_turnTo, Cond.instanceMethod yX1_turnTo, Cond.selects RX1 yX1_turnTo yX1_turnTo, Cond.code yX1_turnTo cX1_turnTo 5 none, Cond.fieldLink RX1 18 "WrongWord$Asks" "number" "I", Cond.fieldLink RX1 22 "WrongWord$Asks" "kind" "I", Cond.fieldLink RX1 25 "WrongWord$Asks" "fee" "I", Cond.fieldLink RX1 28 "WrongWord$Asks" "took" "I", Cond.fieldLink RX1 31 "WrongWord$Asks" "begun" "I", Cond.methodLink RX7 314 yX1_answer, Cond.instanceMethod yX1_answer, Cond.selects RX1 yX1_answer yX1_answer, Cond.code yX1_answer cX1_answer 2 (some .int), Cond.methodLink RX1 34 yX1_sizeBody, Cond.instanceMethod yX1_sizeBody, Cond.selects RX1 yX1_sizeBody yX1_sizeBody, Cond.code yX1_sizeBody cX1_sizeBody 1 (some .int), Cond.fieldLink RX1 45 "WrongWord$Asks" "SIZE_BODY" "[I", Cond.methodLink RX1 38 yX1_markBody, Cond.instanceMethod yX1_markBody, Cond.selects RX1 yX1_markBody yX1_markBody, Cond.code yX1_markBody cX1_markBody 1 (some .int)]
def wsL_law_r41 : List Cond := [Cond.fieldLink RX1 48 "WrongWord$Asks" "MARK_BODY" "[I", Cond.methodLink RX1 41 yX1_given, Cond.static yX1_given, Cond.code yX1_given cX1_given 4 (some .int), Cond.methodLink RX1 51 yX1_leave, Cond.instanceMethod yX1_leave, Cond.selects RX1 yX1_leave yX1_leave, Cond.code yX1_leave cX1_leave 2 none, Cond.methodLink RL 162 yX8_ask, Cond.instanceMethod yX8_ask, Cond.selects RX8 yX8_ask yX8_ask, Cond.code yX8_ask cX8_ask 4 (some .int), Cond.fieldLink RX8 237 "WrongWordModel" "traced" "I", Cond.methodLink RX8 247 yX8_deafSize, Cond.instanceMethod yX8_deafSize, Cond.selects RX8 yX8_deafSize yX8_deafSize, Cond.code yX8_deafSize cX8_deafSize 4 (some .int), Cond.methodLink RX8 240 yX8_begins, Cond.instanceMethod yX8_begins, Cond.selects RX8 yX8_begins yX8_begins, Cond.code yX8_begins cX8_begins 2 none, Cond.methodLink RX8 250 yX8_keenSize, Cond.instanceMethod yX8_keenSize, Cond.selects RX8 yX8_keenSize yX8_keenSize]
def wsL_law_r42 : List Cond := [Cond.code yX8_keenSize cX8_keenSize 4 (some .int), Cond.methodLink RX8 244 yX8_keenMark, Cond.instanceMethod yX8_keenMark, Cond.selects RX8 yX8_keenMark yX8_keenMark, Cond.code yX8_keenMark cX8_keenMark 4 (some .int), Cond.methodLink RX8 253 yX8_deafMark, Cond.instanceMethod yX8_deafMark, Cond.selects RX8 yX8_deafMark yX8_deafMark, Cond.code yX8_deafMark cX8_deafMark 2 (some .int), Cond.methodLink RL 163 yX7_trace, Cond.instanceMethod yX7_trace, Cond.selects RX7 yX7_trace yX7_trace, Cond.code yX7_trace cX7_trace 2 (some .int), Cond.fieldLink RX7 317 "WrongWord$Asks" "begun" "I", Cond.fieldLink RX7 320 "WrongWord$Asks" "bodies" "[I", Cond.methodLink RL 166 yX8_trace, Cond.instanceMethod yX8_trace, Cond.selects RX8 yX8_trace yX8_trace, Cond.code yX8_trace cX8_trace 2 (some .int), Cond.methodLink RL 167 yX7_count, Cond.instanceMethod yX7_count, Cond.selects RX7 yX7_count yX7_count, Cond.code yX7_count cX7_count 2 (some .int), Cond.methodLink RX7 323 yX7_rowsThere]
def wsL_law_r43 : List Cond := [Cond.instanceMethod yX7_rowsThere, Cond.selects RX7 yX7_rowsThere yX7_rowsThere, Cond.code yX7_rowsThere cX7_rowsThere 3 (some .int), Cond.methodLink RX7 330 yX4_tookInAll, Cond.instanceMethod yX4_tookInAll, Cond.selects RX4 yX4_tookInAll yX4_tookInAll, Cond.code yX4_tookInAll cX4_tookInAll 3 (some .int), Cond.methodLink RL 170 yX8_count, Cond.instanceMethod yX8_count, Cond.selects RX8 yX8_count yX8_count, Cond.code yX8_count cX8_count 4 (some .int), Cond.methodLink RL 171 yX7_status, Cond.instanceMethod yX7_status, Cond.selects RX7 yX7_status yX7_status, Cond.code yX7_status cX7_status 1 (some .int), Cond.methodLink RL 174 yX8_status, Cond.instanceMethod yX8_status, Cond.selects RX8 yX8_status yX8_status, Cond.code yX8_status cX8_status 1 (some .int)]
def wsL_law : List Cond := (wsL_law_r1 ++ (wsL_law_r2 ++ (wsL_law_r3 ++ (wsL_law_r4 ++ (wsL_law_r5 ++ (wsL_law_r6 ++ (wsL_law_r7 ++ (wsL_law_r8 ++ (wsL_law_r9 ++ (wsL_law_r10 ++ (wsL_law_r11 ++ (wsL_law_r12 ++ (wsL_law_r13 ++ (wsL_law_r14 ++ (wsL_law_r15 ++ (wsL_law_r16 ++ (wsL_law_r17 ++ (wsL_law_r18 ++ (wsL_law_r19 ++ (wsL_law_r20 ++ (wsL_law_r21 ++ (wsL_law_r22 ++ (wsL_law_r23 ++ (wsL_law_r24 ++ (wsL_law_r25 ++ (wsL_law_r26 ++ (wsL_law_r27 ++ (wsL_law_r28 ++ (wsL_law_r29 ++ (wsL_law_r30 ++ (wsL_law_r31 ++ (wsL_law_r32 ++ (wsL_law_r33 ++ (wsL_law_r34 ++ (wsL_law_r35 ++ (wsL_law_r36 ++ (wsL_law_r37 ++ (wsL_law_r38 ++ (wsL_law_r39 ++ (wsL_law_r40 ++ (wsL_law_r41 ++ (wsL_law_r42 ++ wsL_law_r43)))))))))))))))))))))))))))))))))))))))))) ++ wsX70 ++ wsX80 ++ wsX60 ++ wsX20 ++ wsX00 ++ wsX30 ++ wsX10 ++ wsX50 ++ wsX40 ++ ([] : List Cond)
set_option maxRecDepth 100000 in
theorem mem_r {big : List Cond} (ws : List Cond) (ps : List Nat) (hp : ws = ps.filterMap (fun i => big[i]?)) : ∀ w ∈ ws, w ∈ big := fun w hw => by
  rw [hp] at hw
  obtain ⟨i, -, hi⟩ := List.mem_filterMap.mp hw
  first | exact List.mem_of_getElem? hi | exact List.getElem?_mem hi
set_option maxRecDepth 100000 in
theorem wsLi_1 : ∀ w ∈ wsL_law_r1, w ∈ lw_tbl := mem_r wsL_law_r1 [79, 80, 67, 830, 831, 75, 81, 82, 83, 84, 85, 86, 87, 302, 89, 90, 68, 303, 221, 96, 69, 304, 223, 224] (by decide +kernel)
set_option maxRecDepth 100000 in
theorem wsLi_2 : ∀ w ∈ wsL_law_r2, w ∈ lw_tbl := mem_r wsL_law_r2 [71, 305, 306, 244, 245, 72, 307, 257, 258, 73, 308, 284, 74, 92, 93, 94, 149, 195, 95, 196, 98, 99, 100, 150] (by decide +kernel)
set_option maxRecDepth 100000 in
theorem wsLi_3 : ∀ w ∈ wsL_law_r3, w ∈ lw_tbl := mem_r wsL_law_r3 [153, 157, 101, 102, 70, 160, 104, 105, 106, 107, 109, 112, 115, 225, 226, 227, 228, 229, 232, 247, 248, 249, 250, 251] (by decide +kernel)
set_option maxRecDepth 100000 in
theorem wsLi_4 : ∀ w ∈ wsL_law_r4, w ∈ lw_tbl := mem_r wsL_law_r4 [260, 261, 262, 263, 286, 287, 288, 289, 291, 832, 833, 834, 835, 837, 838, 839, 840, 842, 850, 851, 852, 853, 855, 907] (by decide +kernel)
set_option maxRecDepth 100000 in
theorem wsLi_5 : ∀ w ∈ wsL_law_r5, w ∈ lw_tbl := mem_r wsL_law_r5 [856, 857, 858, 836, 330, 331, 332, 333, 338, 334, 336, 0, 337, 339, 341, 1, 342, 310, 343, 344, 345, 346, 347, 293] (by decide +kernel)
set_option maxRecDepth 100000 in
theorem wsLi_6 : ∀ w ∈ wsL_law_r6, w ∈ lw_tbl := mem_r wsL_law_r6 [348, 350, 2, 351, 908, 909, 910, 911, 918, 912, 913, 914, 915, 916, 917, 919, 921, 27, 922, 841, 923, 924, 926, 28] (by decide +kernel)
set_option maxRecDepth 100000 in
theorem wsLi_7 : ∀ w ∈ wsL_law_r7, w ∈ lw_tbl := mem_r wsL_law_r7 [927, 352, 353, 354, 355, 356, 357, 358, 359, 360, 361, 362, 363, 364, 365, 366, 367, 928, 929, 930, 931, 932, 934, 29] (by decide +kernel)
set_option maxRecDepth 100000 in
theorem wsLi_8 : ∀ w ∈ wsL_law_r8, w ∈ lw_tbl := mem_r wsL_law_r8 [935, 936, 937, 938, 368, 369, 370, 371, 292, 290, 373, 375, 374, 76, 372, 939, 940, 941, 942, 943, 945, 30, 946, 376] (by decide +kernel)
set_option maxRecDepth 100000 in
theorem wsLi_9 : ∀ w ∈ wsL_law_r9, w ∈ lw_tbl := mem_r wsL_law_r9 [377, 378, 379, 294, 947, 948, 949, 950, 380, 381, 382, 383, 199, 388, 384, 385, 386, 387, 198, 951, 952, 953, 954, 843] (by decide +kernel)
set_option maxRecDepth 100000 in
theorem wsLi_10 : ∀ w ∈ wsL_law_r10, w ∈ lw_tbl := mem_r wsL_law_r10 [955, 389, 390, 391, 392, 200, 309, 444, 202, 197, 173, 393, 394, 395, 396, 204, 172, 175, 162, 397, 399, 3, 400, 205] (by decide +kernel)
set_option maxRecDepth 100000 in
theorem wsLi_11 : ∀ w ∈ wsL_law_r11, w ∈ lw_tbl := mem_r wsL_law_r11 [124, 165, 168, 401, 403, 4, 404, 405, 407, 5, 408, 409, 411, 6, 412, 201, 203, 413, 415, 7, 416, 417, 418, 419] (by decide +kernel)
set_option maxRecDepth 100000 in
theorem wsLi_12 : ∀ w ∈ wsL_law_r12, w ∈ lw_tbl := mem_r wsL_law_r12 [420, 422, 8, 423, 151, 424, 426, 9, 427, 428, 429, 430, 431, 432, 434, 10, 435, 439, 155, 158, 436, 437, 438, 440] (by decide +kernel)
set_option maxRecDepth 100000 in
theorem wsLi_13 : ∀ w ∈ wsL_law_r13, w ∈ lw_tbl := mem_r wsL_law_r13 [441, 442, 443, 118, 126, 129, 445, 446, 447, 448, 449, 164, 167, 171, 174, 450, 451, 452, 453, 122, 454, 455, 456, 457] (by decide +kernel)
set_option maxRecDepth 100000 in
theorem wsLi_14 : ∀ w ∈ wsL_law_r14, w ∈ lw_tbl := mem_r wsL_law_r14 [458, 234, 956, 957, 958, 959, 846, 845, 848, 849, 1007, 854, 960, 962, 31, 963, 847, 964, 966, 32, 967, 968, 970, 33] (by decide +kernel)
set_option maxRecDepth 100000 in
theorem wsLi_15 : ∀ w ∈ wsL_law_r15, w ∈ lw_tbl := mem_r wsL_law_r15 [971, 844, 972, 974, 34, 975, 976, 978, 35, 979, 980, 982, 36, 983, 984, 986, 37, 987, 988, 990, 38, 991, 992, 994] (by decide +kernel)
set_option maxRecDepth 100000 in
theorem wsLi_16 : ∀ w ∈ wsL_law_r16, w ∈ lw_tbl := mem_r wsL_law_r16 [39, 995, 996, 998, 40, 999, 1000, 1001, 1002, 1003, 1005, 41, 1006, 1008, 1009, 1010, 459, 460, 461, 462, 1011, 1012, 1013, 1014] (by decide +kernel)
set_option maxRecDepth 100000 in
theorem wsLi_17 : ∀ w ∈ wsL_law_r17, w ∈ lw_tbl := mem_r wsL_law_r17 [463, 464, 465, 466, 471, 163, 121, 467, 469, 11, 470, 472, 473, 474, 475, 233, 477, 478, 77, 479, 476, 480, 481, 482] (by decide +kernel)
set_option maxRecDepth 100000 in
theorem wsLi_18 : ∀ w ∈ wsL_law_r18, w ∈ lw_tbl := mem_r wsL_law_r18 [483, 484, 485, 486, 487, 123, 120, 488, 489, 490, 491, 493, 494, 1015, 1016, 1017, 1018, 1023, 1019, 1021, 42, 1022, 1024, 1026] (by decide +kernel)
set_option maxRecDepth 100000 in
theorem wsLi_19 : ∀ w ∈ wsL_law_r19, w ∈ lw_tbl := mem_r wsL_law_r19 [43, 1027, 1028, 1030, 44, 1031, 1032, 1033, 1034, 495, 496, 497, 498, 131, 535, 499, 501, 12, 502, 503, 505, 13, 506, 507] (by decide +kernel)
set_option maxRecDepth 100000 in
theorem wsLi_20 : ∀ w ∈ wsL_law_r20, w ∈ lw_tbl := mem_r wsL_law_r20 [508, 509, 510, 511, 512, 513, 514, 515, 516, 517, 518, 519, 520, 521, 522, 523, 524, 127, 525, 526, 527, 528, 529, 530] (by decide +kernel)
set_option maxRecDepth 100000 in
theorem wsLi_21 : ∀ w ∈ wsL_law_r21, w ∈ lw_tbl := mem_r wsL_law_r21 [531, 532, 533, 534, 536, 537, 538, 539, 541, 542, 543, 1035, 1036, 1037, 1038, 1039, 1041, 45, 1042, 1043, 1044, 1045, 1046, 1048] (by decide +kernel)
set_option maxRecDepth 100000 in
theorem wsLi_22 : ∀ w ∈ wsL_law_r22, w ∈ lw_tbl := mem_r wsL_law_r22 [46, 1049, 1050, 1052, 47, 1053, 1054, 1056, 48, 1057, 1058, 1059, 1060, 1061, 1063, 49, 1064, 1065, 1067, 50, 1068, 1069, 1071, 51] (by decide +kernel)
set_option maxRecDepth 100000 in
theorem wsLi_23 : ∀ w ∈ wsL_law_r23, w ∈ lw_tbl := mem_r wsL_law_r23 [1072, 1073, 1075, 52, 1076, 544, 545, 546, 547, 125, 1077, 1078, 1079, 1080, 548, 549, 550, 551, 128, 552, 554, 14, 555, 177] (by decide +kernel)
set_option maxRecDepth 100000 in
theorem wsLi_24 : ∀ w ∈ wsL_law_r24, w ∈ lw_tbl := mem_r wsL_law_r24 [1081, 1082, 1083, 1084, 1085, 1087, 53, 1088, 556, 557, 558, 559, 235, 560, 561, 562, 563, 1089, 1090, 1091, 1092, 564, 565, 566] (by decide +kernel)
set_option maxRecDepth 100000 in
theorem wsLi_25 : ∀ w ∈ wsL_law_r25, w ∈ lw_tbl := mem_r wsL_law_r25 [567, 152, 1093, 1094, 1095, 1096, 568, 569, 570, 571, 572, 573, 1097, 1098, 1099, 1100, 574, 575, 576, 577, 159, 108, 578, 579] (by decide +kernel)
set_option maxRecDepth 100000 in
theorem wsLi_26 : ∀ w ∈ wsL_law_r26, w ∈ lw_tbl := mem_r wsL_law_r26 [580, 581, 1101, 1102, 1103, 1104, 1105, 1107, 54, 1108, 583, 584, 585, 586, 111, 114, 117, 1109, 1110, 1111, 1112, 587, 588, 589] (by decide +kernel)
set_option maxRecDepth 100000 in
theorem wsLi_27 : ∀ w ∈ wsL_law_r27, w ∈ lw_tbl := mem_r wsL_law_r27 [590, 591, 593, 15, 594, 1113, 1114, 1115, 1116, 1117, 1118, 1119, 595, 596, 597, 598, 1120, 1121, 1122, 1123, 599, 600, 601, 602] (by decide +kernel)
set_option maxRecDepth 100000 in
theorem wsLi_28 : ∀ w ∈ wsL_law_r28, w ∈ lw_tbl := mem_r wsL_law_r28 [603, 604, 605, 606, 607, 1124, 1125, 1126, 1127, 608, 609, 610, 611, 612, 614, 16, 615, 616, 617, 618, 619, 620, 1128, 1129] (by decide +kernel)
set_option maxRecDepth 100000 in
theorem wsLi_29 : ∀ w ∈ wsL_law_r29, w ∈ lw_tbl := mem_r wsL_law_r29 [1130, 1131, 1132, 1134, 55, 1135, 1136, 1138, 56, 1139, 621, 622, 623, 624, 625, 626, 627, 628, 629, 1140, 1141, 1142, 1143, 630] (by decide +kernel)
set_option maxRecDepth 100000 in
theorem wsLi_30 : ∀ w ∈ wsL_law_r30, w ∈ lw_tbl := mem_r wsL_law_r30 [631, 632, 633, 634, 635, 636, 170, 637, 638, 639, 161, 130, 113, 176, 154, 110, 119, 116, 640, 1144, 1145, 1146, 1147, 1148] (by decide +kernel)
set_option maxRecDepth 100000 in
theorem wsLi_31 : ∀ w ∈ wsL_law_r31, w ∈ lw_tbl := mem_r wsL_law_r31 [1150, 57, 1151, 642, 643, 644, 645, 646, 647, 648, 649, 650, 651, 662, 663, 664, 652, 653, 654, 655, 656, 657, 78, 658] (by decide +kernel)
set_option maxRecDepth 100000 in
theorem wsLi_32 : ∀ w ∈ wsL_law_r32, w ∈ lw_tbl := mem_r wsL_law_r32 [659, 660, 661, 665, 1152, 1153, 1154, 1155, 1156, 1157, 1158, 1159, 1161, 58, 1162, 666, 667, 668, 669, 670, 671, 672, 673, 679] (by decide +kernel)
set_option maxRecDepth 100000 in
theorem wsLi_33 : ∀ w ∈ wsL_law_r33, w ∈ lw_tbl := mem_r wsL_law_r33 [674, 676, 17, 677, 678, 1163, 1164, 1165, 1166, 1167, 1169, 59, 1170, 680, 681, 682, 683, 684, 686, 18, 687, 688, 689, 690] (by decide +kernel)
set_option maxRecDepth 100000 in
theorem wsLi_34 : ∀ w ∈ wsL_law_r34, w ∈ lw_tbl := mem_r wsL_law_r34 [691, 1171, 1172, 1173, 1174, 692, 693, 694, 695, 696, 697, 698, 699, 700, 701, 702, 703, 1175, 1176, 1177, 1178, 704, 705, 706] (by decide +kernel)
set_option maxRecDepth 100000 in
theorem wsLi_35 : ∀ w ∈ wsL_law_r35, w ∈ lw_tbl := mem_r wsL_law_r35 [707, 708, 709, 710, 711, 1179, 1180, 1181, 1182, 712, 713, 714, 715, 716, 718, 19, 719, 166, 169, 720, 1183, 1184, 1185, 1186] (by decide +kernel)
set_option maxRecDepth 100000 in
theorem wsLi_36 : ∀ w ∈ wsL_law_r36, w ∈ lw_tbl := mem_r wsL_law_r36 [721, 722, 723, 724, 156, 725, 727, 20, 728, 729, 731, 21, 732, 733, 734, 736, 22, 737, 1187, 1188, 1189, 1190, 1191, 1193] (by decide +kernel)
set_option maxRecDepth 100000 in
theorem wsLi_37 : ∀ w ∈ wsL_law_r37, w ∈ lw_tbl := mem_r wsL_law_r37 [60, 1194, 738, 739, 740, 741, 742, 743, 744, 745, 746, 747, 748, 749, 1195, 1196, 1197, 1198, 750, 751, 752, 753, 754, 755] (by decide +kernel)
set_option maxRecDepth 100000 in
theorem wsLi_38 : ∀ w ∈ wsL_law_r38, w ∈ lw_tbl := mem_r wsL_law_r38 [756, 757, 1199, 1200, 1201, 1202, 1203, 1204, 1205, 1206, 758, 759, 760, 761, 1207, 1208, 1209, 1210, 762, 763, 764, 765, 1211, 1212] (by decide +kernel)
set_option maxRecDepth 100000 in
theorem wsLi_39 : ∀ w ∈ wsL_law_r39, w ∈ lw_tbl := mem_r wsL_law_r39 [1213, 1214, 766, 767, 768, 769, 1215, 1216, 1217, 1218, 770, 771, 772, 773, 774, 775, 776, 777, 1219, 1220, 1221, 1222, 779, 780] (by decide +kernel)
set_option maxRecDepth 100000 in
theorem wsLi_40 : ∀ w ∈ wsL_law_r40, w ∈ lw_tbl := mem_r wsL_law_r40 [781, 782, 783, 784, 785, 786, 267, 268, 269, 270, 265, 787, 788, 789, 790, 791, 793, 23, 794, 795, 797, 799, 24, 800] (by decide +kernel)
set_option maxRecDepth 100000 in
theorem wsLi_41 : ∀ w ∈ wsL_law_r41, w ∈ lw_tbl := mem_r wsL_law_r41 [801, 803, 804, 805, 806, 808, 25, 809, 1223, 1224, 1225, 1226, 859, 1227, 1229, 61, 1230, 1231, 1233, 62, 1234, 1235, 1237, 63] (by decide +kernel)
set_option maxRecDepth 100000 in
theorem wsLi_42 : ∀ w ∈ wsL_law_r42, w ∈ lw_tbl := mem_r wsL_law_r42 [1238, 1239, 1241, 64, 1242, 1243, 1245, 65, 1246, 810, 811, 812, 813, 266, 264, 1247, 1248, 1249, 1250, 814, 815, 816, 817, 818] (by decide +kernel)
set_option maxRecDepth 100000 in
theorem wsLi_43 : ∀ w ∈ wsL_law_r43, w ∈ lw_tbl := mem_r wsL_law_r43 [820, 26, 821, 822, 823, 824, 825, 1251, 1252, 1253, 1254, 826, 827, 828, 829, 1255, 1256, 1257, 1258] (by decide +kernel)
set_option maxRecDepth 100000 in
theorem wsLiX7 : ∀ w ∈ wsX70, w ∈ lw_tbl := by decide +kernel
set_option maxRecDepth 100000 in
theorem wsLiX8 : ∀ w ∈ wsX80, w ∈ lw_tbl := by decide +kernel
set_option maxRecDepth 100000 in
theorem wsLiX6 : ∀ w ∈ wsX60, w ∈ lw_tbl := by decide +kernel
set_option maxRecDepth 100000 in
theorem wsLiX2 : ∀ w ∈ wsX20, w ∈ lw_tbl := by decide +kernel
set_option maxRecDepth 100000 in
theorem wsLiX0 : ∀ w ∈ wsX00, w ∈ lw_tbl := by decide +kernel
set_option maxRecDepth 100000 in
theorem wsLiX3 : ∀ w ∈ wsX30, w ∈ lw_tbl := by decide +kernel
set_option maxRecDepth 100000 in
theorem wsLiX1 : ∀ w ∈ wsX10, w ∈ lw_tbl := by decide +kernel
set_option maxRecDepth 100000 in
theorem wsLiX5 : ∀ w ∈ wsX50, w ∈ lw_tbl := by decide +kernel
set_option maxRecDepth 100000 in
theorem wsLiX4 : ∀ w ∈ wsX40, w ∈ lw_tbl := by decide +kernel
set_option maxRecDepth 100000 in
theorem wsL_law_in : ∀ w ∈ wsL_law, w ∈ lw_tbl := List.forall_mem_append.mpr ⟨List.forall_mem_append.mpr ⟨List.forall_mem_append.mpr ⟨List.forall_mem_append.mpr ⟨List.forall_mem_append.mpr ⟨List.forall_mem_append.mpr ⟨List.forall_mem_append.mpr ⟨List.forall_mem_append.mpr ⟨List.forall_mem_append.mpr ⟨List.forall_mem_append.mpr ⟨List.forall_mem_append.mpr ⟨wsLi_1, List.forall_mem_append.mpr ⟨wsLi_2, List.forall_mem_append.mpr ⟨wsLi_3, List.forall_mem_append.mpr ⟨wsLi_4, List.forall_mem_append.mpr ⟨wsLi_5, List.forall_mem_append.mpr ⟨wsLi_6, List.forall_mem_append.mpr ⟨wsLi_7, List.forall_mem_append.mpr ⟨wsLi_8, List.forall_mem_append.mpr ⟨wsLi_9, List.forall_mem_append.mpr ⟨wsLi_10, List.forall_mem_append.mpr ⟨wsLi_11, List.forall_mem_append.mpr ⟨wsLi_12, List.forall_mem_append.mpr ⟨wsLi_13, List.forall_mem_append.mpr ⟨wsLi_14, List.forall_mem_append.mpr ⟨wsLi_15, List.forall_mem_append.mpr ⟨wsLi_16, List.forall_mem_append.mpr ⟨wsLi_17, List.forall_mem_append.mpr ⟨wsLi_18, List.forall_mem_append.mpr ⟨wsLi_19, List.forall_mem_append.mpr ⟨wsLi_20, List.forall_mem_append.mpr ⟨wsLi_21, List.forall_mem_append.mpr ⟨wsLi_22, List.forall_mem_append.mpr ⟨wsLi_23, List.forall_mem_append.mpr ⟨wsLi_24, List.forall_mem_append.mpr ⟨wsLi_25, List.forall_mem_append.mpr ⟨wsLi_26, List.forall_mem_append.mpr ⟨wsLi_27, List.forall_mem_append.mpr ⟨wsLi_28, List.forall_mem_append.mpr ⟨wsLi_29, List.forall_mem_append.mpr ⟨wsLi_30, List.forall_mem_append.mpr ⟨wsLi_31, List.forall_mem_append.mpr ⟨wsLi_32, List.forall_mem_append.mpr ⟨wsLi_33, List.forall_mem_append.mpr ⟨wsLi_34, List.forall_mem_append.mpr ⟨wsLi_35, List.forall_mem_append.mpr ⟨wsLi_36, List.forall_mem_append.mpr ⟨wsLi_37, List.forall_mem_append.mpr ⟨wsLi_38, List.forall_mem_append.mpr ⟨wsLi_39, List.forall_mem_append.mpr ⟨wsLi_40, List.forall_mem_append.mpr ⟨wsLi_41, List.forall_mem_append.mpr ⟨wsLi_42, wsLi_43⟩⟩⟩⟩⟩⟩⟩⟩⟩⟩⟩⟩⟩⟩⟩⟩⟩⟩⟩⟩⟩⟩⟩⟩⟩⟩⟩⟩⟩⟩⟩⟩⟩⟩⟩⟩⟩⟩⟩⟩⟩⟩, wsLiX7⟩, wsLiX8⟩, wsLiX6⟩, wsLiX2⟩, wsLiX0⟩, wsLiX3⟩, wsLiX1⟩, wsLiX5⟩, wsLiX4⟩, fun _ h => absurd h List.not_mem_nil⟩
theorem inlX0 : ∀ w ∈ wsX00, w ∈ wsL_law := fun _ h => List.mem_append_left _ (List.mem_append_left _ (List.mem_append_left _ (List.mem_append_left _ (List.mem_append_left _ (List.mem_append_right _ h)))))
theorem inX0 : ∀ w ∈ wsX00, w ∈ lw_tbl := fun w h => wsL_law_in w (inlX0 w h)
theorem inlX1 : ∀ w ∈ wsX10, w ∈ wsL_law := fun _ h => List.mem_append_left _ (List.mem_append_left _ (List.mem_append_left _ (List.mem_append_right _ h)))
theorem inX1 : ∀ w ∈ wsX10, w ∈ lw_tbl := fun w h => wsL_law_in w (inlX1 w h)
theorem inlX2 : ∀ w ∈ wsX20, w ∈ wsL_law := fun _ h => List.mem_append_left _ (List.mem_append_left _ (List.mem_append_left _ (List.mem_append_left _ (List.mem_append_left _ (List.mem_append_left _ (List.mem_append_right _ h))))))
theorem inX2 : ∀ w ∈ wsX20, w ∈ lw_tbl := fun w h => wsL_law_in w (inlX2 w h)
theorem inlX3 : ∀ w ∈ wsX30, w ∈ wsL_law := fun _ h => List.mem_append_left _ (List.mem_append_left _ (List.mem_append_left _ (List.mem_append_left _ (List.mem_append_right _ h))))
theorem inX3 : ∀ w ∈ wsX30, w ∈ lw_tbl := fun w h => wsL_law_in w (inlX3 w h)
theorem inlX4 : ∀ w ∈ wsX40, w ∈ wsL_law := fun _ h => List.mem_append_left _ (List.mem_append_right _ h)
theorem inX4 : ∀ w ∈ wsX40, w ∈ lw_tbl := fun w h => wsL_law_in w (inlX4 w h)
theorem inlX5 : ∀ w ∈ wsX50, w ∈ wsL_law := fun _ h => List.mem_append_left _ (List.mem_append_left _ (List.mem_append_right _ h))
theorem inX5 : ∀ w ∈ wsX50, w ∈ lw_tbl := fun w h => wsL_law_in w (inlX5 w h)
theorem inlX6 : ∀ w ∈ wsX60, w ∈ wsL_law := fun _ h => List.mem_append_left _ (List.mem_append_left _ (List.mem_append_left _ (List.mem_append_left _ (List.mem_append_left _ (List.mem_append_left _ (List.mem_append_left _ (List.mem_append_right _ h)))))))
theorem inX6 : ∀ w ∈ wsX60, w ∈ lw_tbl := fun w h => wsL_law_in w (inlX6 w h)
theorem inlX7 : ∀ w ∈ wsX70, w ∈ wsL_law := fun _ h => List.mem_append_left _ (List.mem_append_left _ (List.mem_append_left _ (List.mem_append_left _ (List.mem_append_left _ (List.mem_append_left _ (List.mem_append_left _ (List.mem_append_left _ (List.mem_append_left _ (List.mem_append_right _ h)))))))))
theorem inX7 : ∀ w ∈ wsX70, w ∈ lw_tbl := fun w h => wsL_law_in w (inlX7 w h)
theorem inlX8 : ∀ w ∈ wsX80, w ∈ wsL_law := fun _ h => List.mem_append_left _ (List.mem_append_left _ (List.mem_append_left _ (List.mem_append_left _ (List.mem_append_left _ (List.mem_append_left _ (List.mem_append_left _ (List.mem_append_left _ (List.mem_append_right _ h))))))))
theorem inX8 : ∀ w ∈ wsX80, w ∈ lw_tbl := fun w h => wsL_law_in w (inlX8 w h)
theorem inJ6 : ∀ w ∈ wsJ60, w ∈ lw_tbl := by decide +kernel
theorem inJ9 : ∀ w ∈ wsJ90, w ∈ lw_tbl := by decide +kernel
theorem inJ10 : ∀ w ∈ wsJ100, w ∈ lw_tbl := by decide +kernel
set_option maxRecDepth 20000 in
theorem ggL_law_X7_init : GoodIn wsL_law wsX7_init := goodIn_r _ [8, 9, 10, 11, 12, 13, 14, 15, 16, 17, 18, 19, 20, 21, 22, 23, 24, 25, 26, 27, 28, 29, 30, 31, 32, 33, 34, 35, 36, 37, 38, 39, 40, 41, 42, 43, 44, 45, 46, 47, 48, 49, 50, 51, 52, 53, 54, 55, 56, 57, 58, 59, 60, 61, 62, 63, 64, 65, 66, 67, 68, 69, 70, 71, 72, 73, 74, 75, 76, 77, 78, 79, 80, 1027, 1028, 1029, 1030, 1031, 1032, 1033, 1034, 1035, 1059, 1060, 1061, 1062, 1063, 1064, 1065, 1066, 1067, 1068, 1069, 1070, 1071, 1072, 1073, 1074, 1075, 1076, 1077, 1078, 1079, 1080, 1081, 1082, 1083, 1084, 1085, 1086, 1087, 1088, 1089, 1090, 1091, 1092, 1093, 1094, 1095] (by decide +kernel) (by decide +kernel)
set_option maxRecDepth 20000 in
theorem gL_law_X7_init : GoodIn wsL_law (wsX7_init) := ggL_law_X7_init
set_option maxRecDepth 20000 in
theorem ggL_law_X8_init : GoodIn wsL_law wsX8_init := goodIn_r _ [83, 84, 10, 11, 40, 85, 86, 87, 88, 89, 90, 91, 92, 93, 94, 95, 96, 97, 98, 99, 1036, 1037, 1038, 1039, 1040, 1041, 1042, 1043, 1044, 1045, 1046, 1047, 1048, 1049, 1050, 1051, 1052, 1053, 1054, 1055, 1056, 1057, 1058] (by decide +kernel) (by decide +kernel)
set_option maxRecDepth 20000 in
theorem gL_law_X8_init : GoodIn wsL_law (wsX8_init) := ggL_law_X8_init
set_option maxRecDepth 20000 in
theorem ggL_law_X7_row : GoodIn wsL_law wsX7_row := goodIn_r _ [103, 104, 13, 105, 106, 107, 2, 108, 109, 110, 111, 112, 113, 114, 115, 116, 117, 36, 118, 80, 119, 79, 120, 121, 122, 123, 1027, 1028, 1029, 1030, 1031, 1032, 1033, 1034, 1035, 1085, 1086, 1087] (by decide +kernel) (by decide +kernel)
set_option maxRecDepth 20000 in
theorem gL_law_X7_row : GoodIn wsL_law (wsV RL 13 RX7 yX7_row wsX7_row) := goodIn_app (goodIn_of _ (by decide +kernel)) ggL_law_X7_row
set_option maxRecDepth 20000 in
theorem ggL_law_X8_row : GoodIn wsL_law wsX8_row := goodIn_r _ [127, 128, 85, 86, 87, 129, 130, 5, 131, 132, 133, 134, 135, 136, 137, 138, 139, 140, 141, 142, 143, 144, 1036, 1037, 1038, 1039, 1040, 1041, 1042, 1043, 1044, 1045, 1046, 1047, 1048, 1049, 1050, 1051, 1052, 1053, 1054, 1055, 1056, 1057, 1058] (by decide +kernel) (by decide +kernel)
set_option maxRecDepth 20000 in
theorem gL_law_X8_row : GoodIn wsL_law (wsV RL 17 RX8 yX8_row wsX8_row) := goodIn_app (goodIn_of _ (by decide +kernel)) ggL_law_X8_row
set_option maxRecDepth 20000 in
theorem ggL_law_X7_set : GoodIn wsL_law wsX7_set := goodIn_r _ [148, 104, 13, 105, 106, 107, 2, 108, 149, 150, 151, 36, 152, 80, 153, 154, 155, 156, 119, 109, 110, 111, 112, 113, 114, 157, 158, 159, 160, 79, 120, 121, 122, 123, 1027, 1028, 1029, 1030, 1031, 1032, 1033, 1034, 1035, 1085, 1086, 1087] (by decide +kernel) (by decide +kernel)
set_option maxRecDepth 20000 in
theorem gL_law_X7_set : GoodIn wsL_law (wsV RL 18 RX7 yX7_set wsX7_set) := goodIn_app (goodIn_of _ (by decide +kernel)) ggL_law_X7_set
set_option maxRecDepth 20000 in
theorem ggL_law_X8_set : GoodIn wsL_law wsX8_set := goodIn_r _ [164, 128, 86, 87, 85, 129, 130, 5, 131, 132, 133, 134, 165, 166, 167, 168, 99, 135, 136, 137, 138, 139, 140, 169, 170, 171, 141, 142, 143, 144, 1036, 1037, 1038, 1039, 1040, 1041, 1042, 1043, 1044, 1045, 1046, 1047, 1048, 1049, 1050, 1051, 1052, 1053, 1054, 1055, 1056, 1057, 1058] (by decide +kernel) (by decide +kernel)
set_option maxRecDepth 20000 in
theorem gL_law_X8_set : GoodIn wsL_law (wsV RL 21 RX8 yX8_set wsX8_set) := goodIn_app (goodIn_of _ (by decide +kernel)) ggL_law_X8_set
set_option maxRecDepth 20000 in
theorem ggL_law_X7_copy : GoodIn wsL_law wsX7_copy := goodIn_r _ [175, 104, 13, 176, 177, 178, 179, 180, 181, 105, 106, 107, 2, 108, 109, 110, 111, 112, 113, 114, 182, 154, 155, 36, 156, 119, 120, 121, 122, 123, 1027, 1028, 1029, 1030, 1031, 1032, 1033, 1034, 1035, 1085, 1086, 1087] (by decide +kernel) (by decide +kernel)
set_option maxRecDepth 20000 in
theorem gL_law_X7_copy : GoodIn wsL_law (wsV RL 22 RX7 yX7_copy wsX7_copy) := goodIn_app (goodIn_of _ (by decide +kernel)) ggL_law_X7_copy
set_option maxRecDepth 20000 in
theorem ggL_law_X8_copy : GoodIn wsL_law wsX8_copy := goodIn_r _ [186, 128, 85, 88, 87, 129, 130, 5, 131, 132, 133, 134, 165, 166, 167, 168, 99, 135, 136, 137, 138, 139, 140, 187, 188, 189, 190, 86, 141, 142, 143, 144, 1036, 1037, 1038, 1039, 1040, 1041, 1042, 1043, 1044, 1045, 1046, 1047, 1048, 1049, 1050, 1051, 1052, 1053, 1054, 1055, 1056, 1057, 1058] (by decide +kernel) (by decide +kernel)
set_option maxRecDepth 20000 in
theorem gL_law_X8_copy : GoodIn wsL_law (wsV RL 26 RX8 yX8_copy wsX8_copy) := goodIn_app (goodIn_of _ (by decide +kernel)) ggL_law_X8_copy
set_option maxRecDepth 20000 in
theorem ggL_law_X7_drop : GoodIn wsL_law wsX7_drop := goodIn_r _ [194, 104, 13, 176, 195, 105, 106, 107, 2, 108, 109, 110, 111, 112, 113, 114, 120, 121, 122, 123, 1027, 1028, 1029, 1030, 1031, 1032, 1033, 1034, 1035, 1085, 1086, 1087] (by decide +kernel) (by decide +kernel)
set_option maxRecDepth 20000 in
theorem gL_law_X7_drop : GoodIn wsL_law (wsV RL 27 RX7 yX7_drop wsX7_drop) := goodIn_app (goodIn_of _ (by decide +kernel)) ggL_law_X7_drop
set_option maxRecDepth 20000 in
theorem ggL_law_X8_drop : GoodIn wsL_law wsX8_drop := goodIn_r _ [199, 128, 85, 99, 86, 129, 130, 5, 131, 132, 133, 134, 165, 166, 167, 168, 135, 136, 137, 138, 139, 140, 141, 142, 143, 144, 1036, 1037, 1038, 1039, 1040, 1041, 1042, 1043, 1044, 1045, 1046, 1047, 1048, 1049, 1050, 1051, 1052, 1053, 1054, 1055, 1056, 1057, 1058] (by decide +kernel) (by decide +kernel)
set_option maxRecDepth 20000 in
theorem gL_law_X8_drop : GoodIn wsL_law (wsV RL 31 RX8 yX8_drop wsX8_drop) := goodIn_app (goodIn_of _ (by decide +kernel)) ggL_law_X8_drop
set_option maxRecDepth 20000 in
theorem ggL_law_X7_feed : GoodIn wsL_law wsX7_feed := goodIn_r _ [203, 104, 17, 204, 205, 206, 207, 208, 16, 209, 210, 41, 1027, 1028, 1029, 1030, 1031, 1032, 1033, 1034, 1035, 1059, 1060, 1061, 1062, 1063, 1064, 1065] (by decide +kernel) (by decide +kernel)
set_option maxRecDepth 20000 in
theorem gL_law_X7_feed : GoodIn wsL_law (wsV RL 32 RX7 yX7_feed wsX7_feed) := goodIn_app (goodIn_of _ (by decide +kernel)) ggL_law_X7_feed
set_option maxRecDepth 20000 in
theorem ggL_law_X8_feed : GoodIn wsL_law wsX8_feed := goodIn_r _ [214, 128, 215, 216, 89, 132, 133, 5, 134, 1036, 1037, 1038, 1039, 1040, 1041, 1042, 1043, 1044, 1045, 1046, 1047, 1048, 1049, 1050, 1051, 1052, 1053, 1054, 1055, 1056, 1057, 1058] (by decide +kernel) (by decide +kernel)
set_option maxRecDepth 20000 in
theorem gL_law_X8_feed : GoodIn wsL_law (wsV RL 35 RX8 yX8_feed wsX8_feed) := goodIn_app (goodIn_of _ (by decide +kernel)) ggL_law_X8_feed
set_option maxRecDepth 20000 in
theorem ggL_law_X7_gate : GoodIn wsL_law wsX7_gate := goodIn_r _ [220, 17, 204, 221, 222, 223, 224, 21, 225, 25, 226, 227, 228, 229, 16, 230, 231, 43, 232, 233, 234, 235, 236, 237, 238, 239, 240, 241, 242, 243, 244, 245, 246, 247, 248, 249, 250, 210, 41, 251, 252, 253, 254, 255, 256, 257, 258, 259, 260, 261, 262, 263, 264, 265, 266, 267, 268, 269, 270, 271, 272, 273, 274, 275, 20, 276, 47, 277, 278, 279, 280, 281, 282, 283, 284, 285, 286, 287, 288, 289, 52, 290, 291, 292, 293, 57, 294, 295, 296, 297, 298, 179, 180, 181, 48, 49, 53, 299, 300, 301, 302, 303, 304, 305, 306, 307, 308, 58, 59, 60, 309, 310, 311, 24, 312, 313, 1027, 1028, 1029, 1030, 1031, 1032, 1033, 1034, 1035, 1059, 1060, 1061, 1062, 1063, 1064, 1065, 1066, 1067, 1068, 1069, 1070, 1071, 1072, 1073, 1088, 1089, 1090, 1091, 1092, 1093, 1094, 1095, 1074, 1075, 1076] (by decide +kernel) (by decide +kernel)
set_option maxRecDepth 20000 in
theorem gL_law_X7_gate : GoodIn wsL_law (wsV RL 36 RX7 yX7_gate wsX7_gate) := goodIn_app (goodIn_of _ (by decide +kernel)) ggL_law_X7_gate
set_option maxRecDepth 20000 in
theorem ggL_law_X8_gate : GoodIn wsL_law wsX8_gate := goodIn_r _ [317, 91, 318, 319, 320, 321, 215, 322, 90, 323, 324, 325, 326, 5, 327, 328, 329, 330, 331, 332, 89, 132, 133, 134, 333, 334, 335, 336, 337, 338, 339, 340, 341, 342, 343, 344, 345, 346, 347, 348, 349, 350, 351, 352, 353, 354, 355, 356, 357, 358, 359, 360, 361, 362, 363, 364, 365, 366, 367, 368, 369, 370, 371, 372, 373, 374, 375, 1036, 1037, 1038, 1039, 1040, 1041, 1042, 1043, 1044, 1045, 1046, 1047, 1048, 1049, 1050, 1051, 1052, 1053, 1054, 1055, 1056, 1057, 1058] (by decide +kernel) (by decide +kernel)
set_option maxRecDepth 20000 in
theorem gL_law_X8_gate : GoodIn wsL_law (wsV RL 40 RX8 yX8_gate wsX8_gate) := goodIn_app (goodIn_of _ (by decide +kernel)) ggL_law_X8_gate
set_option maxRecDepth 20000 in
theorem ggL_law_X7_fault : GoodIn wsL_law wsX7_fault := goodIn_r _ [379, 222, 1027, 1028, 1029, 1030, 1031, 1032, 1033, 1034, 1035] (by decide +kernel) (by decide +kernel)
set_option maxRecDepth 20000 in
theorem gL_law_X7_fault : GoodIn wsL_law (wsV RL 41 RX7 yX7_fault wsX7_fault) := goodIn_app (goodIn_of _ (by decide +kernel)) ggL_law_X7_fault
set_option maxRecDepth 20000 in
theorem ggL_law_X8_fault : GoodIn wsL_law wsX8_fault := goodIn_r _ [383, 337, 1036, 1037, 1038, 1039, 1040, 1041, 1042, 1043, 1044, 1045, 1046, 1047, 1048, 1049, 1050, 1051, 1052, 1053, 1054, 1055, 1056, 1057, 1058] (by decide +kernel) (by decide +kernel)
set_option maxRecDepth 20000 in
theorem gL_law_X8_fault : GoodIn wsL_law (wsV RL 44 RX8 yX8_fault wsX8_fault) := goodIn_app (goodIn_of _ (by decide +kernel)) ggL_law_X8_fault
set_option maxRecDepth 20000 in
theorem ggL_law_X7_nights : GoodIn wsL_law wsX7_nights := goodIn_r _ [387, 388, 104, 21, 389, 390, 205, 25, 391, 392, 393, 2, 394, 226, 395, 396, 397, 24, 398, 66, 399, 313, 400, 401, 402, 403, 404, 304, 305, 52, 306, 291, 307, 292, 293, 57, 308, 179, 180, 181, 58, 59, 60, 405, 406, 407, 408, 409, 410, 411, 20, 412, 53, 413, 299, 300, 414, 415, 416, 417, 418, 301, 419, 420, 1027, 1028, 1029, 1030, 1031, 1032, 1033, 1034, 1035, 1066, 1067, 1068, 1069, 1070, 1071, 1072, 1073, 1088, 1089, 1090, 1091, 1092, 1093, 1094, 1095, 1074, 1075, 1076] (by decide +kernel) (by decide +kernel)
set_option maxRecDepth 20000 in
theorem gL_law_X7_nights : GoodIn wsL_law (wsV RL 45 RX7 yX7_nights wsX7_nights) := goodIn_app (goodIn_of _ (by decide +kernel)) ggL_law_X7_nights
set_option maxRecDepth 20000 in
theorem ggL_law_X8_nights : GoodIn wsL_law wsX8_nights := goodIn_r _ [424, 425, 128, 90, 216, 426, 427, 428, 5, 429, 132, 133, 134, 430, 431, 432, 433, 323, 93, 373, 374, 375, 434, 435, 436, 437, 438, 439, 440, 1036, 1037, 1038, 1039, 1040, 1041, 1042, 1043, 1044, 1045, 1046, 1047, 1048, 1049, 1050, 1051, 1052, 1053, 1054, 1055, 1056, 1057, 1058] (by decide +kernel) (by decide +kernel)
set_option maxRecDepth 20000 in
theorem gL_law_X8_nights : GoodIn wsL_law (wsV RL 48 RX8 yX8_nights wsX8_nights) := goodIn_app (goodIn_of _ (by decide +kernel)) ggL_law_X8_nights
set_option maxRecDepth 20000 in
theorem ggL_law_X7_say : GoodIn wsL_law wsX7_say := goodIn_r _ [444, 104, 21, 389, 445, 205, 390, 25, 446, 447, 448, 449, 2, 450, 226, 451, 452, 453, 454, 455, 456, 457, 20, 458, 302, 419, 420, 459, 460, 461, 462, 53, 414, 463, 410, 411, 412, 413, 299, 300, 415, 416, 417, 418, 301, 464, 465, 466, 467, 48, 468, 469, 470, 471, 472, 473, 474, 475, 476, 477, 478, 274, 275, 276, 47, 479, 480, 481, 482, 395, 396, 397, 24, 398, 66, 399, 313, 400, 401, 402, 403, 404, 304, 305, 52, 306, 291, 307, 292, 293, 57, 308, 179, 180, 181, 58, 59, 60, 483, 484, 485, 486, 487, 488, 489, 490, 1027, 1028, 1029, 1030, 1031, 1032, 1033, 1034, 1035, 1066, 1067, 1068, 1069, 1070, 1071, 1072, 1073, 1088, 1089, 1090, 1091, 1092, 1093, 1094, 1095, 1074, 1075, 1076] (by decide +kernel) (by decide +kernel)
set_option maxRecDepth 20000 in
theorem gL_law_X7_say : GoodIn wsL_law (wsV RL 49 RX7 yX7_say wsX7_say) := goodIn_app (goodIn_of _ (by decide +kernel)) ggL_law_X7_say
set_option maxRecDepth 20000 in
theorem ggL_law_X8_say : GoodIn wsL_law wsX8_say := goodIn_r _ [494, 128, 90, 216, 495, 496, 497, 5, 498, 132, 133, 134, 499, 500, 501, 430, 431, 432, 433, 323, 93, 373, 374, 375, 502, 503, 504, 505, 506, 507, 508, 509, 438, 439, 440, 510, 511, 512, 513, 514, 515, 516, 517, 518, 519, 520, 521, 522, 523, 524, 525, 526, 527, 528, 529, 530, 531, 532, 1036, 1037, 1038, 1039, 1040, 1041, 1042, 1043, 1044, 1045, 1046, 1047, 1048, 1049, 1050, 1051, 1052, 1053, 1054, 1055, 1056, 1057, 1058] (by decide +kernel) (by decide +kernel)
set_option maxRecDepth 20000 in
theorem gL_law_X8_say : GoodIn wsL_law (wsV RL 53 RX8 yX8_say wsX8_say) := goodIn_app (goodIn_of _ (by decide +kernel)) ggL_law_X8_say
set_option maxRecDepth 20000 in
theorem ggL_law_X7_start : GoodIn wsL_law wsX7_start := goodIn_r _ [536, 388, 104, 21, 389, 537, 25, 391, 392, 393, 2, 394, 226, 395, 396, 397, 24, 398, 66, 399, 313, 400, 401, 402, 403, 404, 304, 305, 52, 306, 291, 307, 292, 293, 57, 308, 179, 180, 181, 58, 59, 60, 1027, 1028, 1029, 1030, 1031, 1032, 1033, 1034, 1035, 1066, 1067, 1068, 1069, 1070, 1071, 1072, 1073, 1088, 1089, 1090, 1091, 1092, 1093, 1094, 1095, 1074, 1075, 1076] (by decide +kernel) (by decide +kernel)
set_option maxRecDepth 20000 in
theorem gL_law_X7_start : GoodIn wsL_law (wsV RL 54 RX7 yX7_start wsX7_start) := goodIn_app (goodIn_of _ (by decide +kernel)) ggL_law_X7_start
set_option maxRecDepth 20000 in
theorem ggL_law_X8_start : GoodIn wsL_law wsX8_start := goodIn_r _ [541, 425, 128, 90, 426, 427, 428, 5, 429, 132, 133, 134, 430, 431, 432, 433, 323, 93, 373, 374, 375, 1036, 1037, 1038, 1039, 1040, 1041, 1042, 1043, 1044, 1045, 1046, 1047, 1048, 1049, 1050, 1051, 1052, 1053, 1054, 1055, 1056, 1057, 1058] (by decide +kernel) (by decide +kernel)
set_option maxRecDepth 20000 in
theorem gL_law_X8_start : GoodIn wsL_law (wsV RL 57 RX8 yX8_start wsX8_start) := goodIn_app (goodIn_of _ (by decide +kernel)) ggL_law_X8_start
set_option maxRecDepth 20000 in
theorem ggL_law_X7_dismiss : GoodIn wsL_law wsX7_dismiss := goodIn_r _ [545, 104, 21, 388, 25, 389, 546, 547, 548, 549, 2, 550, 551, 483, 470, 471, 20, 472, 53, 473, 490, 488, 489, 395, 396, 397, 24, 398, 66, 399, 313, 400, 401, 402, 403, 404, 304, 305, 52, 306, 291, 307, 292, 293, 57, 308, 179, 180, 181, 58, 59, 60, 1027, 1028, 1029, 1030, 1031, 1032, 1033, 1034, 1035, 1066, 1067, 1068, 1069, 1070, 1071, 1072, 1073, 1088, 1089, 1090, 1091, 1092, 1093, 1094, 1095, 1074, 1075, 1076] (by decide +kernel) (by decide +kernel)
set_option maxRecDepth 20000 in
theorem gL_law_X7_dismiss : GoodIn wsL_law (wsV RL 58 RX7 yX7_dismiss wsX7_dismiss) := goodIn_app (goodIn_of _ (by decide +kernel)) ggL_law_X7_dismiss
set_option maxRecDepth 20000 in
theorem ggL_law_X8_dismiss : GoodIn wsL_law wsX8_dismiss := goodIn_r _ [555, 128, 90, 425, 556, 557, 558, 5, 559, 132, 133, 134, 430, 431, 432, 433, 323, 93, 373, 374, 375, 1036, 1037, 1038, 1039, 1040, 1041, 1042, 1043, 1044, 1045, 1046, 1047, 1048, 1049, 1050, 1051, 1052, 1053, 1054, 1055, 1056, 1057, 1058] (by decide +kernel) (by decide +kernel)
set_option maxRecDepth 20000 in
theorem gL_law_X8_dismiss : GoodIn wsL_law (wsV RL 61 RX8 yX8_dismiss wsX8_dismiss) := goodIn_app (goodIn_of _ (by decide +kernel)) ggL_law_X8_dismiss
set_option maxRecDepth 20000 in
theorem ggL_law_X7_undo : GoodIn wsL_law wsX7_undo := goodIn_r _ [563, 25, 21, 389, 564, 388, 565, 566, 567, 24, 568, 313, 399, 66, 404, 304, 305, 52, 306, 291, 307, 292, 293, 57, 308, 179, 180, 181, 58, 59, 60, 1027, 1028, 1029, 1030, 1031, 1032, 1033, 1034, 1035, 1066, 1067, 1068, 1069, 1070, 1071, 1072, 1073, 1074, 1075, 1076, 1088, 1089, 1090, 1091, 1092, 1093, 1094, 1095] (by decide +kernel) (by decide +kernel)
set_option maxRecDepth 20000 in
theorem gL_law_X7_undo : GoodIn wsL_law (wsV RL 62 RX7 yX7_undo wsX7_undo) := goodIn_app (goodIn_of _ (by decide +kernel)) ggL_law_X7_undo
set_option maxRecDepth 20000 in
theorem ggL_law_X8_undo : GoodIn wsL_law wsX8_undo := goodIn_r _ [572, 323, 425, 93, 90, 373, 374, 5, 375, 1036, 1037, 1038, 1039, 1040, 1041, 1042, 1043, 1044, 1045, 1046, 1047, 1048, 1049, 1050, 1051, 1052, 1053, 1054, 1055, 1056, 1057, 1058] (by decide +kernel) (by decide +kernel)
set_option maxRecDepth 20000 in
theorem gL_law_X8_undo : GoodIn wsL_law (wsV RL 65 RX8 yX8_undo wsX8_undo) := goodIn_app (goodIn_of _ (by decide +kernel)) ggL_law_X8_undo
set_option maxRecDepth 20000 in
theorem ggL_law_X7_letter : GoodIn wsL_law wsX7_letter := goodIn_r _ [576, 104, 21, 577, 447, 448, 449, 2, 450, 226, 1027, 1028, 1029, 1030, 1031, 1032, 1033, 1034, 1035, 1066, 1067, 1068, 1069, 1070, 1071, 1072, 1073] (by decide +kernel) (by decide +kernel)
set_option maxRecDepth 20000 in
theorem gL_law_X7_letter : GoodIn wsL_law (wsV RL 66 RX7 yX7_letter wsX7_letter) := goodIn_app (goodIn_of _ (by decide +kernel)) ggL_law_X7_letter
set_option maxRecDepth 20000 in
theorem ggL_law_X8_letter : GoodIn wsL_law wsX8_letter := goodIn_r _ [581, 90, 128, 495, 496, 497, 5, 498, 132, 133, 134, 1036, 1037, 1038, 1039, 1040, 1041, 1042, 1043, 1044, 1045, 1046, 1047, 1048, 1049, 1050, 1051, 1052, 1053, 1054, 1055, 1056, 1057, 1058] (by decide +kernel) (by decide +kernel)
set_option maxRecDepth 20000 in
theorem gL_law_X8_letter : GoodIn wsL_law (wsV RL 69 RX8 yX8_letter wsX8_letter) := goodIn_app (goodIn_of _ (by decide +kernel)) ggL_law_X8_letter
set_option maxRecDepth 20000 in
theorem ggL_law_X7_like : GoodIn wsL_law wsX7_like := goodIn_r _ [585, 104, 21, 447, 448, 449, 2, 450, 226, 586, 274, 275, 20, 276, 47, 587, 480, 481, 482, 1027, 1028, 1029, 1030, 1031, 1032, 1033, 1034, 1035, 1066, 1067, 1068, 1069, 1070, 1071, 1072, 1073] (by decide +kernel) (by decide +kernel)
set_option maxRecDepth 20000 in
theorem gL_law_X7_like : GoodIn wsL_law (wsV RL 70 RX7 yX7_like wsX7_like) := goodIn_app (goodIn_of _ (by decide +kernel)) ggL_law_X7_like
set_option maxRecDepth 20000 in
theorem ggL_law_X8_like : GoodIn wsL_law wsX8_like := goodIn_r _ [591, 128, 495, 496, 497, 5, 498, 90, 132, 133, 134, 525, 526, 527, 528, 529, 530, 531, 532, 1036, 1037, 1038, 1039, 1040, 1041, 1042, 1043, 1044, 1045, 1046, 1047, 1048, 1049, 1050, 1051, 1052, 1053, 1054, 1055, 1056, 1057, 1058] (by decide +kernel) (by decide +kernel)
set_option maxRecDepth 20000 in
theorem gL_law_X8_like : GoodIn wsL_law (wsV RL 73 RX8 yX8_like wsX8_like) := goodIn_app (goodIn_of _ (by decide +kernel)) ggL_law_X8_like
set_option maxRecDepth 20000 in
theorem ggL_law_X7_guard : GoodIn wsL_law wsX7_guard := goodIn_r _ [595, 104, 21, 596, 389, 597, 547, 548, 549, 2, 550, 551, 483, 470, 471, 20, 472, 53, 473, 490, 488, 489, 598, 599, 600, 601, 414, 468, 456, 457, 458, 302, 419, 420, 1027, 1028, 1029, 1030, 1031, 1032, 1033, 1034, 1035, 1066, 1067, 1068, 1069, 1070, 1071, 1072, 1073, 1088, 1089, 1090, 1091, 1092, 1093, 1094, 1095] (by decide +kernel) (by decide +kernel)
set_option maxRecDepth 20000 in
theorem gL_law_X7_guard : GoodIn wsL_law (wsV RL 74 RX7 yX7_guard wsX7_guard) := goodIn_app (goodIn_of _ (by decide +kernel)) ggL_law_X7_guard
set_option maxRecDepth 20000 in
theorem ggL_law_X8_guard : GoodIn wsL_law wsX8_guard := goodIn_r _ [605, 128, 90, 556, 557, 558, 5, 559, 132, 133, 134, 606, 607, 608, 609, 502, 503, 504, 505, 1036, 1037, 1038, 1039, 1040, 1041, 1042, 1043, 1044, 1045, 1046, 1047, 1048, 1049, 1050, 1051, 1052, 1053, 1054, 1055, 1056, 1057, 1058] (by decide +kernel) (by decide +kernel)
set_option maxRecDepth 20000 in
theorem gL_law_X8_guard : GoodIn wsL_law (wsV RL 77 RX8 yX8_guard wsX8_guard) := goodIn_app (goodIn_of _ (by decide +kernel)) ggL_law_X8_guard
set_option maxRecDepth 20000 in
theorem ggL_law_X7_tried : GoodIn wsL_law wsX7_tried := goodIn_r _ [613, 21, 389, 445, 104, 614, 615, 616, 1027, 1028, 1029, 1030, 1031, 1032, 1033, 1034, 1035, 1066, 1067, 1068, 1069, 1070, 1071, 1072, 1073, 1088, 1089, 1090, 1091, 1092, 1093, 1094, 1095] (by decide +kernel) (by decide +kernel)
set_option maxRecDepth 20000 in
theorem gL_law_X7_tried : GoodIn wsL_law (wsV RL 78 RX7 yX7_tried wsX7_tried) := goodIn_app (goodIn_of _ (by decide +kernel)) ggL_law_X7_tried
set_option maxRecDepth 20000 in
theorem ggL_law_X8_tried : GoodIn wsL_law wsX8_tried := goodIn_r _ [620, 90, 128, 99, 132, 133, 5, 134, 1036, 1037, 1038, 1039, 1040, 1041, 1042, 1043, 1044, 1045, 1046, 1047, 1048, 1049, 1050, 1051, 1052, 1053, 1054, 1055, 1056, 1057, 1058] (by decide +kernel) (by decide +kernel)
set_option maxRecDepth 20000 in
theorem gL_law_X8_tried : GoodIn wsL_law (wsV RL 81 RX8 yX8_tried wsX8_tried) := goodIn_app (goodIn_of _ (by decide +kernel)) ggL_law_X8_tried
set_option maxRecDepth 20000 in
theorem ggL_law_X7_secret : GoodIn wsL_law wsX7_secret := goodIn_r _ [624, 388, 21, 104, 391, 392, 393, 2, 394, 226, 625, 626, 627, 628, 409, 410, 411, 20, 412, 53, 413, 299, 300, 414, 415, 416, 417, 418, 301, 419, 420, 1027, 1028, 1029, 1030, 1031, 1032, 1033, 1034, 1035, 1066, 1067, 1068, 1069, 1070, 1071, 1072, 1073, 1088, 1089, 1090, 1091, 1092, 1093, 1094, 1095] (by decide +kernel) (by decide +kernel)
set_option maxRecDepth 20000 in
theorem gL_law_X7_secret : GoodIn wsL_law (wsV RL 82 RX7 yX7_secret wsX7_secret) := goodIn_app (goodIn_of _ (by decide +kernel)) ggL_law_X7_secret
set_option maxRecDepth 20000 in
theorem ggL_law_X8_secret : GoodIn wsL_law wsX8_secret := goodIn_r _ [632, 425, 90, 128, 426, 427, 428, 5, 429, 633, 634, 635, 132, 133, 134, 438, 439, 440, 1036, 1037, 1038, 1039, 1040, 1041, 1042, 1043, 1044, 1045, 1046, 1047, 1048, 1049, 1050, 1051, 1052, 1053, 1054, 1055, 1056, 1057, 1058] (by decide +kernel) (by decide +kernel)
set_option maxRecDepth 20000 in
theorem gL_law_X8_secret : GoodIn wsL_law (wsV RL 85 RX8 yX8_secret wsX8_secret) := goodIn_app (goodIn_of _ (by decide +kernel)) ggL_law_X8_secret
set_option maxRecDepth 20000 in
theorem ggL_law_X7_taken : GoodIn wsL_law wsX7_taken := goodIn_r _ [639, 104, 21, 447, 448, 449, 2, 450, 226, 451, 452, 453, 454, 625, 626, 627, 628, 459, 460, 461, 20, 462, 53, 414, 463, 410, 411, 412, 413, 299, 300, 415, 416, 417, 418, 301, 419, 420, 464, 465, 466, 467, 48, 468, 456, 457, 458, 302, 469, 470, 471, 472, 473, 474, 475, 476, 477, 478, 274, 275, 276, 47, 479, 480, 481, 482, 490, 488, 489, 1027, 1028, 1029, 1030, 1031, 1032, 1033, 1034, 1035, 1066, 1067, 1068, 1069, 1070, 1071, 1072, 1073, 1088, 1089, 1090, 1091, 1092, 1093, 1094, 1095] (by decide +kernel) (by decide +kernel)
set_option maxRecDepth 20000 in
theorem gL_law_X7_taken : GoodIn wsL_law (wsV RL 86 RX7 yX7_taken wsX7_taken) := goodIn_app (goodIn_of _ (by decide +kernel)) ggL_law_X7_taken
set_option maxRecDepth 20000 in
theorem ggL_law_X8_taken : GoodIn wsL_law wsX8_taken := goodIn_r _ [643, 128, 495, 496, 497, 5, 498, 90, 132, 133, 134, 499, 500, 501, 633, 634, 635, 506, 507, 508, 509, 438, 439, 440, 510, 511, 512, 513, 502, 503, 504, 505, 514, 515, 516, 517, 518, 519, 520, 521, 522, 523, 524, 525, 526, 527, 528, 529, 530, 531, 532, 1036, 1037, 1038, 1039, 1040, 1041, 1042, 1043, 1044, 1045, 1046, 1047, 1048, 1049, 1050, 1051, 1052, 1053, 1054, 1055, 1056, 1057, 1058] (by decide +kernel) (by decide +kernel)
set_option maxRecDepth 20000 in
theorem gL_law_X8_taken : GoodIn wsL_law (wsV RL 89 RX8 yX8_taken wsX8_taken) := goodIn_app (goodIn_of _ (by decide +kernel)) ggL_law_X8_taken
set_option maxRecDepth 20000 in
theorem ggL_law_X7_safe : GoodIn wsL_law wsX7_safe := goodIn_r _ [647, 388, 21, 104, 391, 392, 393, 2, 394, 226, 451, 452, 453, 454, 625, 626, 627, 628, 648, 649, 650, 20, 651, 301, 652, 460, 461, 462, 53, 414, 463, 410, 411, 412, 413, 299, 300, 415, 416, 417, 418, 419, 420, 464, 465, 466, 467, 48, 468, 456, 457, 458, 302, 469, 470, 471, 472, 473, 474, 475, 476, 477, 478, 274, 275, 276, 47, 479, 480, 481, 482, 488, 489, 1027, 1028, 1029, 1030, 1031, 1032, 1033, 1034, 1035, 1066, 1067, 1068, 1069, 1070, 1071, 1072, 1073, 1088, 1089, 1090, 1091, 1092, 1093, 1094, 1095] (by decide +kernel) (by decide +kernel)
set_option maxRecDepth 20000 in
theorem gL_law_X7_safe : GoodIn wsL_law (wsV RL 90 RX7 yX7_safe wsX7_safe) := goodIn_app (goodIn_of _ (by decide +kernel)) ggL_law_X7_safe
set_option maxRecDepth 20000 in
theorem ggL_law_X8_safe : GoodIn wsL_law wsX8_safe := goodIn_r _ [656, 425, 128, 90, 426, 427, 428, 5, 429, 499, 500, 501, 132, 133, 134, 633, 634, 635, 506, 507, 508, 509, 438, 439, 440, 510, 511, 512, 513, 502, 503, 504, 505, 514, 515, 516, 517, 518, 519, 520, 521, 522, 523, 524, 525, 526, 527, 528, 529, 530, 531, 532, 1036, 1037, 1038, 1039, 1040, 1041, 1042, 1043, 1044, 1045, 1046, 1047, 1048, 1049, 1050, 1051, 1052, 1053, 1054, 1055, 1056, 1057, 1058] (by decide +kernel) (by decide +kernel)
set_option maxRecDepth 20000 in
theorem gL_law_X8_safe : GoodIn wsL_law (wsV RL 93 RX8 yX8_safe wsX8_safe) := goodIn_app (goodIn_of _ (by decide +kernel)) ggL_law_X8_safe
set_option maxRecDepth 20000 in
theorem ggL_law_X7_open : GoodIn wsL_law wsX7_open := goodIn_r _ [660, 388, 21, 104, 391, 392, 393, 2, 394, 226, 661, 662, 663, 664, 625, 626, 627, 628, 665, 666, 667, 20, 668, 669, 649, 650, 651, 301, 652, 460, 461, 462, 53, 414, 463, 410, 411, 412, 413, 299, 300, 415, 416, 417, 418, 419, 420, 464, 465, 466, 467, 48, 468, 456, 457, 458, 302, 469, 470, 471, 472, 473, 474, 475, 476, 477, 478, 274, 275, 276, 47, 479, 480, 481, 482, 488, 489, 1027, 1028, 1029, 1030, 1031, 1032, 1033, 1034, 1035, 1066, 1067, 1068, 1069, 1070, 1071, 1072, 1073, 1088, 1089, 1090, 1091, 1092, 1093, 1094, 1095] (by decide +kernel) (by decide +kernel)
set_option maxRecDepth 20000 in
theorem gL_law_X7_open : GoodIn wsL_law (wsV RL 94 RX7 yX7_open wsX7_open) := goodIn_app (goodIn_of _ (by decide +kernel)) ggL_law_X7_open
set_option maxRecDepth 20000 in
theorem ggL_law_X8_open : GoodIn wsL_law wsX8_open := goodIn_r _ [673, 425, 128, 90, 426, 427, 428, 5, 429, 674, 675, 676, 677, 132, 133, 134, 633, 634, 635, 678, 679, 680, 681, 514, 515, 516, 438, 439, 440, 510, 511, 512, 513, 502, 503, 504, 505, 517, 518, 519, 520, 521, 522, 523, 524, 525, 526, 527, 528, 529, 530, 531, 532, 1036, 1037, 1038, 1039, 1040, 1041, 1042, 1043, 1044, 1045, 1046, 1047, 1048, 1049, 1050, 1051, 1052, 1053, 1054, 1055, 1056, 1057, 1058] (by decide +kernel) (by decide +kernel)
set_option maxRecDepth 20000 in
theorem gL_law_X8_open : GoodIn wsL_law (wsV RL 97 RX8 yX8_open wsX8_open) := goodIn_app (goodIn_of _ (by decide +kernel)) ggL_law_X8_open
set_option maxRecDepth 20000 in
theorem ggL_law_X7_next : GoodIn wsL_law wsX7_next := goodIn_r _ [685, 21, 104, 447, 448, 449, 2, 450, 226, 686, 687, 688, 20, 689, 690, 463, 410, 411, 412, 53, 413, 299, 300, 414, 415, 416, 417, 418, 301, 419, 420, 1027, 1028, 1029, 1030, 1031, 1032, 1033, 1034, 1035, 1066, 1067, 1068, 1069, 1070, 1071, 1072, 1073, 1088, 1089, 1090, 1091, 1092, 1093, 1094, 1095] (by decide +kernel) (by decide +kernel)
set_option maxRecDepth 20000 in
theorem gL_law_X7_next : GoodIn wsL_law (wsV RL 98 RX7 yX7_next wsX7_next) := goodIn_app (goodIn_of _ (by decide +kernel)) ggL_law_X7_next
set_option maxRecDepth 20000 in
theorem ggL_law_X8_next : GoodIn wsL_law wsX8_next := goodIn_r _ [694, 128, 90, 99, 495, 496, 497, 5, 498, 132, 133, 134, 438, 439, 440, 1036, 1037, 1038, 1039, 1040, 1041, 1042, 1043, 1044, 1045, 1046, 1047, 1048, 1049, 1050, 1051, 1052, 1053, 1054, 1055, 1056, 1057, 1058] (by decide +kernel) (by decide +kernel)
set_option maxRecDepth 20000 in
theorem gL_law_X8_next : GoodIn wsL_law (wsV RL 101 RX8 yX8_next wsX8_next) := goodIn_app (goodIn_of _ (by decide +kernel)) ggL_law_X8_next
set_option maxRecDepth 20000 in
theorem ggL_law_X7_agree : GoodIn wsL_law wsX7_agree := goodIn_r _ [698, 388, 21, 391, 392, 393, 2, 394, 226, 699, 700, 29, 701, 702, 703, 704, 705, 706, 707, 708, 709, 710, 711, 712, 713, 714, 475, 476, 20, 477, 478, 274, 275, 276, 47, 479, 480, 481, 482, 488, 489, 1027, 1028, 1029, 1030, 1031, 1032, 1033, 1034, 1035, 1066, 1067, 1068, 1069, 1070, 1071, 1072, 1073, 1088, 1089, 1090, 1091, 1092, 1093, 1094, 1095] (by decide +kernel) (by decide +kernel)
set_option maxRecDepth 20000 in
theorem gL_law_X7_agree : GoodIn wsL_law (wsV RL 102 RX7 yX7_agree wsX7_agree) := goodIn_app (goodIn_of _ (by decide +kernel)) ggL_law_X7_agree
set_option maxRecDepth 20000 in
theorem ggL_law_X8_agree : GoodIn wsL_law wsX8_agree := goodIn_r _ [718, 425, 426, 427, 428, 5, 429, 90, 719, 720, 721, 722, 517, 518, 519, 520, 521, 522, 523, 524, 525, 526, 527, 528, 529, 530, 531, 532, 1036, 1037, 1038, 1039, 1040, 1041, 1042, 1043, 1044, 1045, 1046, 1047, 1048, 1049, 1050, 1051, 1052, 1053, 1054, 1055, 1056, 1057, 1058] (by decide +kernel) (by decide +kernel)
set_option maxRecDepth 20000 in
theorem gL_law_X8_agree : GoodIn wsL_law (wsV RL 105 RX8 yX8_agree wsX8_agree) := goodIn_app (goodIn_of _ (by decide +kernel)) ggL_law_X8_agree
set_option maxRecDepth 20000 in
theorem ggL_law_X7_man : GoodIn wsL_law wsX7_man := goodIn_r _ [726, 388, 104, 21, 391, 392, 393, 2, 394, 226, 699, 700, 29, 701, 702, 703, 704, 705, 706, 707, 708, 709, 710, 711, 712, 713, 714, 475, 476, 20, 477, 478, 274, 275, 276, 47, 479, 480, 481, 482, 488, 489, 727, 728, 729, 730, 731, 732, 733, 734, 402, 735, 736, 737, 738, 739, 465, 466, 467, 48, 468, 456, 457, 458, 302, 419, 420, 469, 470, 471, 472, 53, 473, 474, 740, 741, 742, 743, 744, 745, 746, 747, 1027, 1028, 1029, 1030, 1031, 1032, 1033, 1034, 1035, 1066, 1067, 1068, 1069, 1070, 1071, 1072, 1073, 1088, 1089, 1090, 1091, 1092, 1093, 1094, 1095] (by decide +kernel) (by decide +kernel)
set_option maxRecDepth 20000 in
theorem gL_law_X7_man : GoodIn wsL_law (wsV RL 106 RX7 yX7_man wsX7_man) := goodIn_app (goodIn_of _ (by decide +kernel)) ggL_law_X7_man
set_option maxRecDepth 20000 in
theorem ggL_law_X8_man : GoodIn wsL_law wsX8_man := goodIn_r _ [751, 425, 128, 90, 426, 427, 428, 5, 429, 132, 133, 134, 719, 720, 721, 722, 517, 518, 519, 520, 521, 522, 523, 524, 525, 526, 527, 528, 529, 530, 531, 532, 752, 753, 754, 755, 756, 757, 758, 514, 515, 516, 510, 511, 512, 513, 502, 503, 504, 505, 1036, 1037, 1038, 1039, 1040, 1041, 1042, 1043, 1044, 1045, 1046, 1047, 1048, 1049, 1050, 1051, 1052, 1053, 1054, 1055, 1056, 1057, 1058] (by decide +kernel) (by decide +kernel)
set_option maxRecDepth 20000 in
theorem gL_law_X8_man : GoodIn wsL_law (wsV RL 109 RX8 yX8_man wsX8_man) := goodIn_app (goodIn_of _ (by decide +kernel)) ggL_law_X8_man
set_option maxRecDepth 20000 in
theorem ggL_law_X7_fewest : GoodIn wsL_law wsX7_fewest := goodIn_r _ [762, 388, 30, 21, 391, 392, 393, 2, 394, 226, 699, 700, 29, 701, 702, 703, 704, 705, 706, 707, 708, 709, 710, 711, 712, 713, 714, 475, 476, 20, 477, 478, 274, 275, 276, 47, 479, 480, 481, 482, 488, 489, 763, 764, 765, 766, 70, 71, 767, 736, 737, 738, 739, 465, 466, 467, 48, 468, 456, 457, 458, 302, 419, 420, 469, 470, 471, 472, 53, 473, 474, 740, 741, 742, 743, 744, 745, 746, 768, 769, 770, 771, 733, 734, 402, 735, 772, 401, 403, 1027, 1028, 1029, 1030, 1031, 1032, 1033, 1034, 1035, 1066, 1067, 1068, 1069, 1070, 1071, 1072, 1073, 1088, 1089, 1090, 1091, 1092, 1093, 1094, 1095, 1077, 1078] (by decide +kernel) (by decide +kernel)
set_option maxRecDepth 20000 in
theorem gL_law_X7_fewest : GoodIn wsL_law (wsV RL 110 RX7 yX7_fewest wsX7_fewest) := goodIn_app (goodIn_of _ (by decide +kernel)) ggL_law_X7_fewest
set_option maxRecDepth 20000 in
theorem ggL_law_X8_fewest : GoodIn wsL_law wsX8_fewest := goodIn_r _ [776, 425, 97, 426, 427, 428, 5, 429, 90, 719, 720, 721, 722, 517, 518, 519, 520, 521, 522, 523, 524, 525, 526, 527, 528, 529, 530, 531, 532, 777, 778, 779, 780, 99, 752, 753, 754, 755, 756, 757, 758, 514, 515, 516, 510, 511, 512, 513, 502, 503, 504, 505, 1036, 1037, 1038, 1039, 1040, 1041, 1042, 1043, 1044, 1045, 1046, 1047, 1048, 1049, 1050, 1051, 1052, 1053, 1054, 1055, 1056, 1057, 1058] (by decide +kernel) (by decide +kernel)
set_option maxRecDepth 20000 in
theorem gL_law_X8_fewest : GoodIn wsL_law (wsV RL 113 RX8 yX8_fewest wsX8_fewest) := goodIn_app (goodIn_of _ (by decide +kernel)) ggL_law_X8_fewest
set_option maxRecDepth 20000 in
theorem ggL_law_X7_march : GoodIn wsL_law wsX7_march := goodIn_r _ [784, 388, 104, 13, 391, 392, 393, 2, 394, 21, 226, 105, 106, 107, 108, 149, 150, 151, 36, 152, 80, 153, 154, 155, 156, 119, 109, 110, 111, 112, 113, 114, 785, 786, 787, 788, 177, 446, 447, 448, 449, 450, 789, 790, 791, 20, 792, 690, 652, 460, 461, 462, 53, 414, 463, 410, 411, 412, 413, 299, 300, 415, 416, 417, 418, 301, 419, 420, 464, 465, 466, 467, 48, 468, 456, 457, 458, 302, 469, 470, 471, 472, 473, 474, 475, 476, 477, 478, 274, 275, 276, 47, 479, 480, 481, 482, 120, 121, 122, 123, 1027, 1028, 1029, 1030, 1031, 1032, 1033, 1034, 1035, 1066, 1067, 1068, 1069, 1070, 1071, 1072, 1073, 1085, 1086, 1087, 1088, 1089, 1090, 1091, 1092, 1093, 1094, 1095] (by decide +kernel) (by decide +kernel)
set_option maxRecDepth 20000 in
theorem gL_law_X7_march : GoodIn wsL_law (wsV RL 114 RX7 yX7_march wsX7_march) := goodIn_app (goodIn_of _ (by decide +kernel)) ggL_law_X7_march
set_option maxRecDepth 20000 in
theorem ggL_law_X8_march : GoodIn wsL_law wsX8_march := goodIn_r _ [796, 425, 128, 99, 87, 426, 427, 428, 5, 429, 90, 129, 130, 131, 132, 133, 134, 165, 166, 167, 168, 85, 135, 136, 137, 138, 139, 140, 187, 188, 189, 190, 86, 495, 496, 497, 498, 506, 507, 508, 509, 438, 439, 440, 510, 511, 512, 513, 502, 503, 504, 505, 514, 515, 516, 517, 518, 519, 520, 521, 522, 523, 524, 525, 526, 527, 528, 529, 530, 531, 532, 141, 142, 143, 144, 1036, 1037, 1038, 1039, 1040, 1041, 1042, 1043, 1044, 1045, 1046, 1047, 1048, 1049, 1050, 1051, 1052, 1053, 1054, 1055, 1056, 1057, 1058] (by decide +kernel) (by decide +kernel)
set_option maxRecDepth 20000 in
theorem gL_law_X8_march : GoodIn wsL_law (wsV RL 118 RX8 yX8_march wsX8_march) := goodIn_app (goodIn_of _ (by decide +kernel)) ggL_law_X8_march
set_option maxRecDepth 20000 in
theorem ggL_law_X7_cheap : GoodIn wsL_law wsX7_cheap := goodIn_r _ [800, 388, 104, 21, 391, 392, 393, 2, 394, 226, 661, 662, 663, 664, 625, 626, 627, 628, 801, 802, 803, 20, 804, 53, 414, 669, 649, 650, 651, 301, 652, 460, 461, 462, 463, 410, 411, 412, 413, 299, 300, 415, 416, 417, 418, 419, 420, 464, 465, 466, 467, 48, 468, 456, 457, 458, 302, 469, 470, 471, 472, 473, 474, 475, 476, 477, 478, 274, 275, 276, 47, 479, 480, 481, 482, 488, 489, 805, 806, 807, 808, 49, 1027, 1028, 1029, 1030, 1031, 1032, 1033, 1034, 1035, 1066, 1067, 1068, 1069, 1070, 1071, 1072, 1073, 1088, 1089, 1090, 1091, 1092, 1093, 1094, 1095] (by decide +kernel) (by decide +kernel)
set_option maxRecDepth 20000 in
theorem gL_law_X7_cheap : GoodIn wsL_law (wsV RL 119 RX7 yX7_cheap wsX7_cheap) := goodIn_app (goodIn_of _ (by decide +kernel)) ggL_law_X7_cheap
set_option maxRecDepth 20000 in
theorem ggL_law_X8_cheap : GoodIn wsL_law wsX8_cheap := goodIn_r _ [812, 425, 128, 99, 90, 426, 427, 428, 5, 429, 674, 675, 676, 677, 132, 133, 134, 633, 634, 635, 514, 515, 516, 678, 679, 680, 681, 438, 439, 440, 510, 511, 512, 513, 502, 503, 504, 505, 517, 518, 519, 520, 521, 522, 523, 524, 525, 526, 527, 528, 529, 530, 531, 532, 752, 753, 754, 1036, 1037, 1038, 1039, 1040, 1041, 1042, 1043, 1044, 1045, 1046, 1047, 1048, 1049, 1050, 1051, 1052, 1053, 1054, 1055, 1056, 1057, 1058] (by decide +kernel) (by decide +kernel)
set_option maxRecDepth 20000 in
theorem gL_law_X8_cheap : GoodIn wsL_law (wsV RL 122 RX8 yX8_cheap wsX8_cheap) := goodIn_app (goodIn_of _ (by decide +kernel)) ggL_law_X8_cheap
set_option maxRecDepth 20000 in
theorem ggL_law_X7_near : GoodIn wsL_law wsX7_near := goodIn_r _ [816, 104, 21, 446, 447, 448, 449, 2, 450, 226, 817, 818, 819, 20, 820, 690, 301, 478, 274, 275, 276, 47, 586, 1027, 1028, 1029, 1030, 1031, 1032, 1033, 1034, 1035, 1066, 1067, 1068, 1069, 1070, 1071, 1072, 1073] (by decide +kernel) (by decide +kernel)
set_option maxRecDepth 20000 in
theorem gL_law_X7_near : GoodIn wsL_law (wsV RL 123 RX7 yX7_near wsX7_near) := goodIn_app (goodIn_of _ (by decide +kernel)) ggL_law_X7_near
set_option maxRecDepth 20000 in
theorem ggL_law_X8_near : GoodIn wsL_law wsX8_near := goodIn_r _ [824, 128, 99, 90, 495, 496, 497, 5, 498, 132, 133, 134, 525, 526, 527, 528, 1036, 1037, 1038, 1039, 1040, 1041, 1042, 1043, 1044, 1045, 1046, 1047, 1048, 1049, 1050, 1051, 1052, 1053, 1054, 1055, 1056, 1057, 1058] (by decide +kernel) (by decide +kernel)
set_option maxRecDepth 20000 in
theorem gL_law_X8_near : GoodIn wsL_law (wsV RL 126 RX8 yX8_near wsX8_near) := goodIn_app (goodIn_of _ (by decide +kernel)) ggL_law_X8_near
set_option maxRecDepth 20000 in
theorem ggL_law_X7_rules : GoodIn wsL_law wsX7_rules := goodIn_r _ [828, 388, 104, 13, 391, 392, 393, 2, 394, 21, 226, 105, 106, 107, 108, 149, 150, 151, 36, 152, 80, 153, 154, 155, 156, 119, 109, 110, 111, 112, 113, 114, 829, 830, 831, 832, 389, 537, 833, 834, 390, 177, 835, 416, 417, 20, 418, 301, 419, 420, 490, 488, 489, 120, 121, 122, 123, 1027, 1028, 1029, 1030, 1031, 1032, 1033, 1034, 1035, 1066, 1067, 1068, 1069, 1070, 1071, 1072, 1073, 1085, 1086, 1087, 1088, 1089, 1090, 1091, 1092, 1093, 1094, 1095] (by decide +kernel) (by decide +kernel)
set_option maxRecDepth 20000 in
theorem gL_law_X7_rules : GoodIn wsL_law (wsV RL 127 RX7 yX7_rules wsX7_rules) := goodIn_app (goodIn_of _ (by decide +kernel)) ggL_law_X7_rules
set_option maxRecDepth 20000 in
theorem ggL_law_X8_rules : GoodIn wsL_law wsX8_rules := goodIn_r _ [839, 425, 128, 90, 92, 87, 426, 427, 428, 5, 429, 129, 130, 131, 132, 133, 134, 165, 166, 167, 168, 85, 99, 135, 136, 137, 138, 139, 140, 187, 188, 189, 190, 86, 373, 374, 375, 438, 439, 440, 141, 142, 143, 144, 1036, 1037, 1038, 1039, 1040, 1041, 1042, 1043, 1044, 1045, 1046, 1047, 1048, 1049, 1050, 1051, 1052, 1053, 1054, 1055, 1056, 1057, 1058] (by decide +kernel) (by decide +kernel)
set_option maxRecDepth 20000 in
theorem gL_law_X8_rules : GoodIn wsL_law (wsV RL 130 RX8 yX8_rules wsX8_rules) := goodIn_app (goodIn_of _ (by decide +kernel)) ggL_law_X8_rules
set_option maxRecDepth 20000 in
theorem ggL_law_X7_fits : GoodIn wsL_law wsX7_fits := goodIn_r _ [843, 104, 13, 21, 226, 844, 547, 548, 549, 2, 550, 551, 105, 106, 107, 108, 149, 150, 151, 36, 152, 80, 153, 154, 155, 156, 119, 109, 110, 111, 112, 113, 114, 845, 846, 847, 848, 409, 410, 411, 20, 412, 53, 413, 299, 300, 414, 415, 416, 417, 418, 301, 419, 420, 849, 850, 851, 852, 389, 390, 177, 853, 475, 476, 477, 478, 274, 275, 276, 47, 479, 480, 481, 482, 490, 488, 489, 854, 855, 856, 857, 120, 121, 122, 123, 1027, 1028, 1029, 1030, 1031, 1032, 1033, 1034, 1035, 1066, 1067, 1068, 1069, 1070, 1071, 1072, 1073, 1085, 1086, 1087, 1088, 1089, 1090, 1091, 1092, 1093, 1094, 1095] (by decide +kernel) (by decide +kernel)
set_option maxRecDepth 20000 in
theorem gL_law_X7_fits : GoodIn wsL_law (wsV RL 131 RX7 yX7_fits wsX7_fits) := goodIn_app (goodIn_of _ (by decide +kernel)) ggL_law_X7_fits
set_option maxRecDepth 20000 in
theorem ggL_law_X8_fits : GoodIn wsL_law wsX8_fits := goodIn_r _ [861, 128, 90, 556, 557, 558, 5, 559, 132, 133, 134, 129, 130, 131, 165, 166, 167, 168, 85, 99, 135, 136, 137, 138, 139, 140, 187, 188, 189, 190, 86, 438, 439, 440, 862, 863, 864, 865, 87, 521, 522, 523, 524, 525, 526, 527, 528, 529, 530, 531, 532, 517, 518, 519, 520, 141, 142, 143, 144, 1036, 1037, 1038, 1039, 1040, 1041, 1042, 1043, 1044, 1045, 1046, 1047, 1048, 1049, 1050, 1051, 1052, 1053, 1054, 1055, 1056, 1057, 1058] (by decide +kernel) (by decide +kernel)
set_option maxRecDepth 20000 in
theorem gL_law_X8_fits : GoodIn wsL_law (wsV RL 134 RX8 yX8_fits wsX8_fits) := goodIn_app (goodIn_of _ (by decide +kernel)) ggL_law_X8_fits
set_option maxRecDepth 20000 in
theorem ggL_law_X7_sure : GoodIn wsL_law wsX7_sure := goodIn_r _ [869, 104, 21, 447, 448, 449, 2, 450, 226, 451, 452, 453, 454, 699, 700, 29, 701, 702, 703, 704, 705, 706, 707, 708, 709, 710, 711, 712, 713, 714, 475, 476, 20, 477, 478, 274, 275, 276, 47, 479, 480, 481, 482, 488, 489, 870, 741, 742, 743, 744, 745, 746, 871, 737, 738, 739, 465, 466, 467, 48, 468, 456, 457, 458, 302, 419, 420, 469, 470, 471, 472, 53, 473, 474, 872, 873, 874, 875, 876, 877, 1027, 1028, 1029, 1030, 1031, 1032, 1033, 1034, 1035, 1066, 1067, 1068, 1069, 1070, 1071, 1072, 1073, 1088, 1089, 1090, 1091, 1092, 1093, 1094, 1095] (by decide +kernel) (by decide +kernel)
set_option maxRecDepth 20000 in
theorem gL_law_X7_sure : GoodIn wsL_law (wsV RL 135 RX7 yX7_sure wsX7_sure) := goodIn_app (goodIn_of _ (by decide +kernel)) ggL_law_X7_sure
set_option maxRecDepth 20000 in
theorem ggL_law_X8_sure : GoodIn wsL_law wsX8_sure := goodIn_r _ [881, 128, 495, 496, 497, 5, 498, 90, 132, 133, 134, 499, 500, 501, 719, 720, 721, 722, 517, 518, 519, 520, 521, 522, 523, 524, 525, 526, 527, 528, 529, 530, 531, 532, 755, 756, 757, 758, 514, 515, 516, 510, 511, 512, 513, 502, 503, 504, 505, 752, 753, 754, 1036, 1037, 1038, 1039, 1040, 1041, 1042, 1043, 1044, 1045, 1046, 1047, 1048, 1049, 1050, 1051, 1052, 1053, 1054, 1055, 1056, 1057, 1058] (by decide +kernel) (by decide +kernel)
set_option maxRecDepth 20000 in
theorem gL_law_X8_sure : GoodIn wsL_law (wsV RL 138 RX8 yX8_sure wsX8_sure) := goodIn_app (goodIn_of _ (by decide +kernel)) ggL_law_X8_sure
set_option maxRecDepth 20000 in
theorem ggL_law_X7_drawn : GoodIn wsL_law wsX7_drawn := goodIn_r _ [885, 388, 886, 104, 887, 888, 21, 226, 391, 392, 393, 2, 394, 889, 419, 420, 459, 460, 461, 20, 462, 53, 414, 463, 410, 411, 412, 413, 299, 300, 415, 416, 417, 418, 301, 464, 465, 466, 467, 48, 468, 456, 457, 458, 302, 469, 470, 471, 472, 473, 474, 475, 476, 477, 478, 274, 275, 276, 47, 479, 480, 481, 482, 1027, 1028, 1029, 1030, 1031, 1032, 1033, 1034, 1035, 1066, 1067, 1068, 1069, 1070, 1071, 1072, 1073, 1088, 1089, 1090, 1091, 1092, 1093, 1094, 1095] (by decide +kernel) (by decide +kernel)
set_option maxRecDepth 20000 in
theorem gL_law_X7_drawn : GoodIn wsL_law (wsV RL 139 RX7 yX7_drawn wsX7_drawn) := goodIn_app (goodIn_of _ (by decide +kernel)) ggL_law_X7_drawn
set_option maxRecDepth 20000 in
theorem ggL_law_X8_drawn : GoodIn wsL_law wsX8_drawn := goodIn_r _ [893, 425, 894, 128, 895, 896, 90, 897, 426, 427, 428, 5, 429, 633, 634, 635, 132, 133, 134, 506, 507, 508, 509, 438, 439, 440, 510, 511, 512, 513, 502, 503, 504, 505, 514, 515, 516, 517, 518, 519, 520, 521, 522, 523, 524, 525, 526, 527, 528, 529, 530, 531, 532, 1036, 1037, 1038, 1039, 1040, 1041, 1042, 1043, 1044, 1045, 1046, 1047, 1048, 1049, 1050, 1051, 1052, 1053, 1054, 1055, 1056, 1057, 1058] (by decide +kernel) (by decide +kernel)
set_option maxRecDepth 20000 in
theorem gL_law_X8_drawn : GoodIn wsL_law (wsV RL 142 RX8 yX8_drawn wsX8_drawn) := goodIn_app (goodIn_of _ (by decide +kernel)) ggL_law_X8_drawn
set_option maxRecDepth 20000 in
theorem ggL_law_X7_image : GoodIn wsL_law wsX7_image := goodIn_r _ [901, 104, 388, 26, 21, 391, 392, 393, 2, 394, 226, 294, 295, 296, 20, 297, 47, 298, 179, 180, 181, 48, 49, 53, 299, 300, 301, 302, 303, 304, 305, 52, 306, 291, 307, 292, 293, 57, 308, 58, 59, 60, 1027, 1028, 1029, 1030, 1031, 1032, 1033, 1034, 1035, 1066, 1067, 1068, 1069, 1070, 1071, 1072, 1073, 1088, 1089, 1090, 1091, 1092, 1093, 1094, 1095] (by decide +kernel) (by decide +kernel)
set_option maxRecDepth 20000 in
theorem gL_law_X7_image : GoodIn wsL_law (wsV RL 143 RX7 yX7_image wsX7_image) := goodIn_app (goodIn_of _ (by decide +kernel)) ggL_law_X7_image
set_option maxRecDepth 20000 in
theorem ggL_law_X8_image : GoodIn wsL_law wsX8_image := goodIn_r _ [905, 128, 425, 90, 94, 96, 132, 133, 5, 134, 426, 427, 428, 429, 373, 374, 375, 1036, 1037, 1038, 1039, 1040, 1041, 1042, 1043, 1044, 1045, 1046, 1047, 1048, 1049, 1050, 1051, 1052, 1053, 1054, 1055, 1056, 1057, 1058] (by decide +kernel) (by decide +kernel)
set_option maxRecDepth 20000 in
theorem gL_law_X8_image : GoodIn wsL_law (wsV RL 146 RX8 yX8_image wsX8_image) := goodIn_app (goodIn_of _ (by decide +kernel)) ggL_law_X8_image
set_option maxRecDepth 20000 in
theorem ggL_law_X7_restore : GoodIn wsL_law wsX7_restore := goodIn_r _ [909, 104, 26, 226, 388, 21, 25, 294, 295, 296, 20, 297, 47, 298, 179, 180, 181, 48, 49, 53, 299, 300, 301, 302, 303, 304, 305, 52, 306, 291, 307, 292, 293, 57, 308, 58, 59, 60, 309, 310, 311, 24, 312, 313, 1027, 1028, 1029, 1030, 1031, 1032, 1033, 1034, 1035, 1066, 1067, 1068, 1069, 1070, 1071, 1072, 1073, 1088, 1089, 1090, 1091, 1092, 1093, 1094, 1095, 1074, 1075, 1076] (by decide +kernel) (by decide +kernel)
set_option maxRecDepth 20000 in
theorem gL_law_X7_restore : GoodIn wsL_law (wsV RL 147 RX7 yX7_restore wsX7_restore) := goodIn_app (goodIn_of _ (by decide +kernel)) ggL_law_X7_restore
set_option maxRecDepth 20000 in
theorem ggL_law_X8_restore : GoodIn wsL_law wsX8_restore := goodIn_r _ [913, 128, 96, 425, 94, 90, 323, 132, 133, 5, 134, 373, 374, 375, 1036, 1037, 1038, 1039, 1040, 1041, 1042, 1043, 1044, 1045, 1046, 1047, 1048, 1049, 1050, 1051, 1052, 1053, 1054, 1055, 1056, 1057, 1058] (by decide +kernel) (by decide +kernel)
set_option maxRecDepth 20000 in
theorem gL_law_X8_restore : GoodIn wsL_law (wsV RL 150 RX8 yX8_restore wsX8_restore) := goodIn_app (goodIn_of _ (by decide +kernel)) ggL_law_X8_restore
set_option maxRecDepth 20000 in
theorem ggL_law_X7_kind : GoodIn wsL_law wsX7_kind := goodIn_r _ [917, 21, 844, 104, 547, 548, 549, 2, 550, 551, 1027, 1028, 1029, 1030, 1031, 1032, 1033, 1034, 1035, 1066, 1067, 1068, 1069, 1070, 1071, 1072, 1073] (by decide +kernel) (by decide +kernel)
set_option maxRecDepth 20000 in
theorem gL_law_X7_kind : GoodIn wsL_law (wsV RL 151 RX7 yX7_kind wsX7_kind) := goodIn_app (goodIn_of _ (by decide +kernel)) ggL_law_X7_kind
set_option maxRecDepth 20000 in
theorem ggL_law_X8_kind : GoodIn wsL_law wsX8_kind := goodIn_r _ [921, 128, 556, 557, 558, 5, 559, 90, 132, 133, 134, 517, 518, 519, 520, 1036, 1037, 1038, 1039, 1040, 1041, 1042, 1043, 1044, 1045, 1046, 1047, 1048, 1049, 1050, 1051, 1052, 1053, 1054, 1055, 1056, 1057, 1058] (by decide +kernel) (by decide +kernel)
set_option maxRecDepth 20000 in
theorem gL_law_X8_kind : GoodIn wsL_law (wsV RL 154 RX8 yX8_kind wsX8_kind) := goodIn_app (goodIn_of _ (by decide +kernel)) ggL_law_X8_kind
set_option maxRecDepth 20000 in
theorem ggL_law_X7_as : GoodIn wsL_law wsX7_as := goodIn_r _ [925, 104, 21, 844, 547, 548, 549, 2, 550, 551, 926, 927, 33, 928, 929, 120, 121, 122, 123, 113, 109, 110, 111, 112, 114, 1027, 1028, 1029, 1030, 1031, 1032, 1033, 1034, 1035, 1066, 1067, 1068, 1069, 1070, 1071, 1072, 1073] (by decide +kernel) (by decide +kernel)
set_option maxRecDepth 20000 in
theorem gL_law_X7_as : GoodIn wsL_law (wsV RL 155 RX7 yX7_as wsX7_as) := goodIn_app (goodIn_of _ (by decide +kernel)) ggL_law_X7_as
set_option maxRecDepth 20000 in
theorem ggL_law_X8_as : GoodIn wsL_law wsX8_as := goodIn_r _ [933, 128, 556, 557, 558, 5, 559, 90, 132, 133, 134, 517, 518, 519, 520, 141, 142, 143, 144, 139, 135, 136, 137, 138, 140, 1036, 1037, 1038, 1039, 1040, 1041, 1042, 1043, 1044, 1045, 1046, 1047, 1048, 1049, 1050, 1051, 1052, 1053, 1054, 1055, 1056, 1057, 1058] (by decide +kernel) (by decide +kernel)
set_option maxRecDepth 20000 in
theorem gL_law_X8_as : GoodIn wsL_law (wsV RL 158 RX8 yX8_as wsX8_as) := goodIn_app (goodIn_of _ (by decide +kernel)) ggL_law_X8_as
set_option maxRecDepth 20000 in
theorem ggL_law_X7_ask : GoodIn wsL_law wsX7_ask := goodIn_r _ [937, 104, 34, 21, 844, 596, 389, 597, 547, 548, 549, 2, 550, 551, 938, 939, 940, 33, 941, 942, 943, 944, 945, 946, 947, 948, 949, 950, 951, 952, 953, 954, 955, 956, 957, 958, 959, 960, 961, 962, 963, 964, 965, 966, 967, 75, 1027, 1028, 1029, 1030, 1031, 1032, 1033, 1034, 1035, 1066, 1067, 1068, 1069, 1070, 1071, 1072, 1073, 1088, 1089, 1090, 1091, 1092, 1093, 1094, 1095, 1079, 1080, 1081, 1082, 1083, 1084] (by decide +kernel) (by decide +kernel)
set_option maxRecDepth 20000 in
theorem gL_law_X7_ask : GoodIn wsL_law (wsV RL 159 RX7 yX7_ask wsX7_ask) := goodIn_app (goodIn_of _ (by decide +kernel)) ggL_law_X7_ask
set_option maxRecDepth 20000 in
theorem ggL_law_X8_ask : GoodIn wsL_law wsX8_ask := goodIn_r _ [971, 128, 972, 556, 557, 558, 5, 559, 90, 132, 133, 134, 517, 518, 519, 520, 973, 974, 975, 976, 977, 978, 979, 980, 98, 981, 982, 983, 984, 985, 986, 987, 988, 989, 990, 991, 992, 1036, 1037, 1038, 1039, 1040, 1041, 1042, 1043, 1044, 1045, 1046, 1047, 1048, 1049, 1050, 1051, 1052, 1053, 1054, 1055, 1056, 1057, 1058] (by decide +kernel) (by decide +kernel)
set_option maxRecDepth 20000 in
theorem gL_law_X8_ask : GoodIn wsL_law (wsV RL 162 RX8 yX8_ask wsX8_ask) := goodIn_app (goodIn_of _ (by decide +kernel)) ggL_law_X8_ask
set_option maxRecDepth 20000 in
theorem ggL_law_X7_trace : GoodIn wsL_law wsX7_trace := goodIn_r _ [996, 34, 997, 446, 998, 1027, 1028, 1029, 1030, 1031, 1032, 1033, 1034, 1035, 1079, 1080, 1081, 1082, 1083, 1084] (by decide +kernel) (by decide +kernel)
set_option maxRecDepth 20000 in
theorem gL_law_X7_trace : GoodIn wsL_law (wsV RL 163 RX7 yX7_trace wsX7_trace) := goodIn_app (goodIn_of _ (by decide +kernel)) ggL_law_X7_trace
set_option maxRecDepth 20000 in
theorem ggL_law_X8_trace : GoodIn wsL_law wsX8_trace := goodIn_r _ [1002, 972, 98, 99, 132, 133, 5, 134, 1036, 1037, 1038, 1039, 1040, 1041, 1042, 1043, 1044, 1045, 1046, 1047, 1048, 1049, 1050, 1051, 1052, 1053, 1054, 1055, 1056, 1057, 1058] (by decide +kernel) (by decide +kernel)
set_option maxRecDepth 20000 in
theorem gL_law_X8_trace : GoodIn wsL_law (wsV RL 166 RX8 yX8_trace wsX8_trace) := goodIn_app (goodIn_of _ (by decide +kernel)) ggL_law_X8_trace
set_option maxRecDepth 20000 in
theorem ggL_law_X7_count : GoodIn wsL_law wsX7_count := goodIn_r _ [1006, 21, 226, 551, 389, 390, 445, 546, 25, 564, 17, 204, 537, 104, 1007, 1008, 1009, 2, 1010, 13, 176, 1011, 1012, 1013, 52, 1014, 57, 1027, 1028, 1029, 1030, 1031, 1032, 1033, 1034, 1035, 1066, 1067, 1068, 1069, 1070, 1071, 1072, 1073, 1088, 1089, 1090, 1091, 1092, 1093, 1094, 1095, 1074, 1075, 1076, 1059, 1060, 1061, 1062, 1063, 1064, 1065, 1085, 1086, 1087] (by decide +kernel) (by decide +kernel)
set_option maxRecDepth 20000 in
theorem gL_law_X7_count : GoodIn wsL_law (wsV RL 167 RX7 yX7_count wsX7_count) := goodIn_app (goodIn_of _ (by decide +kernel)) ggL_law_X7_count
set_option maxRecDepth 20000 in
theorem ggL_law_X8_count : GoodIn wsL_law wsX8_count := goodIn_r _ [1018, 90, 323, 215, 128, 165, 166, 167, 5, 168, 85, 99, 1036, 1037, 1038, 1039, 1040, 1041, 1042, 1043, 1044, 1045, 1046, 1047, 1048, 1049, 1050, 1051, 1052, 1053, 1054, 1055, 1056, 1057, 1058] (by decide +kernel) (by decide +kernel)
set_option maxRecDepth 20000 in
theorem gL_law_X8_count : GoodIn wsL_law (wsV RL 170 RX8 yX8_count wsX8_count) := goodIn_app (goodIn_of _ (by decide +kernel)) ggL_law_X8_count
set_option maxRecDepth 20000 in
theorem ggL_law_X7_status : GoodIn wsL_law wsX7_status := goodIn_r _ [1022, 113, 1027, 1028, 1029, 1030, 1031, 1032, 1033, 1034, 1035] (by decide +kernel) (by decide +kernel)
set_option maxRecDepth 20000 in
theorem gL_law_X7_status : GoodIn wsL_law (wsV RL 171 RX7 yX7_status wsX7_status) := goodIn_app (goodIn_of _ (by decide +kernel)) ggL_law_X7_status
set_option maxRecDepth 20000 in
theorem ggL_law_X8_status : GoodIn wsL_law wsX8_status := goodIn_r _ [1026, 139, 1036, 1037, 1038, 1039, 1040, 1041, 1042, 1043, 1044, 1045, 1046, 1047, 1048, 1049, 1050, 1051, 1052, 1053, 1054, 1055, 1056, 1057, 1058] (by decide +kernel) (by decide +kernel)
set_option maxRecDepth 20000 in
theorem gL_law_X8_status : GoodIn wsL_law (wsV RL 174 RX8 yX8_status wsX8_status) := goodIn_app (goodIn_of _ (by decide +kernel)) ggL_law_X8_status
def tb_L_law_1 : List (Nat × Instr × Nat) := [(0, .new 7, 3), (3, .dup, 1), (4, .invokespecial 9, 3), (7, .astore_n 1, 1), (8, .new 10, 3), (11, .dup, 1), (12, .invokespecial 12, 3), (15, .astore_n 2, 1), (16, .iconst 0, 1), (17, .istore_n 3, 1), (18, .iload_n 3, 1), (19, .aload_n 0, 1), (20, .arraylength, 1), (21, .bipush 6, 2), (23, .isub, 1), (24, .if_icmp .gt 1403, 3), (27, .aload_n 0, 1), (28, .iload_n 3, 1), (29, .iaload, 1), (30, .bipush 63, 2), (32, .iand, 1), (33, .tableswitch 1388 0 38 #[171, 214, 257, 320, 343, 366, 379, 392, 415, 448, 471, 504, 517, 550, 593, 626, 659, 682, 725, 758, 791, 814, 827, 850, 863, 916, 959, 992, 1045, 1098, 1151, 1194, 1217, 1240, 1263, 1296, 1329, 1352, 1375], 171), (204, .aload_n 1, 1), (205, .aload_n 0, 1), (206, .iload_n 3, 1), (207, .iconst 1, 1), (208, .iadd, 1), (209, .iaload, 1), (210, .aload_n 0, 1), (211, .iload_n 3, 1), (212, .iconst 2, 1), (213, .iadd, 1), (214, .iaload, 1), (215, .aload_n 0, 1), (216, .iload_n 3, 1), (217, .iconst 3, 1), (218, .iadd, 1), (219, .iaload, 1), (220, .invokevirtual 13, 3), (223, .pop, 1)]
set_option maxRecDepth 100000 in
theorem tk_L_law_1 : (tb_L_law_1.all fun q => decide (decode cL_law q.1 = .ok q.2)) = true := by decide +kernel
theorem dL_law_0 : decode cL_law 0 = .ok (.new 7, 3) := tb_d tk_L_law_1 0 (0, .new 7, 3) rfl
theorem dL_law_3 : decode cL_law 3 = .ok (.dup, 1) := tb_d tk_L_law_1 1 (3, .dup, 1) rfl
theorem dL_law_4 : decode cL_law 4 = .ok (.invokespecial 9, 3) := tb_d tk_L_law_1 2 (4, .invokespecial 9, 3) rfl
theorem dL_law_7 : decode cL_law 7 = .ok (.astore_n 1, 1) := tb_d tk_L_law_1 3 (7, .astore_n 1, 1) rfl
theorem dL_law_8 : decode cL_law 8 = .ok (.new 10, 3) := tb_d tk_L_law_1 4 (8, .new 10, 3) rfl
theorem dL_law_11 : decode cL_law 11 = .ok (.dup, 1) := tb_d tk_L_law_1 5 (11, .dup, 1) rfl
theorem dL_law_12 : decode cL_law 12 = .ok (.invokespecial 12, 3) := tb_d tk_L_law_1 6 (12, .invokespecial 12, 3) rfl
theorem dL_law_15 : decode cL_law 15 = .ok (.astore_n 2, 1) := tb_d tk_L_law_1 7 (15, .astore_n 2, 1) rfl
theorem dL_law_16 : decode cL_law 16 = .ok (.iconst 0, 1) := tb_d tk_L_law_1 8 (16, .iconst 0, 1) rfl
theorem dL_law_17 : decode cL_law 17 = .ok (.istore_n 3, 1) := tb_d tk_L_law_1 9 (17, .istore_n 3, 1) rfl
theorem dL_law_18 : decode cL_law 18 = .ok (.iload_n 3, 1) := tb_d tk_L_law_1 10 (18, .iload_n 3, 1) rfl
theorem dL_law_19 : decode cL_law 19 = .ok (.aload_n 0, 1) := tb_d tk_L_law_1 11 (19, .aload_n 0, 1) rfl
theorem dL_law_20 : decode cL_law 20 = .ok (.arraylength, 1) := tb_d tk_L_law_1 12 (20, .arraylength, 1) rfl
theorem dL_law_21 : decode cL_law 21 = .ok (.bipush 6, 2) := tb_d tk_L_law_1 13 (21, .bipush 6, 2) rfl
theorem dL_law_23 : decode cL_law 23 = .ok (.isub, 1) := tb_d tk_L_law_1 14 (23, .isub, 1) rfl
theorem dL_law_24 : decode cL_law 24 = .ok (.if_icmp .gt 1403, 3) := tb_d tk_L_law_1 15 (24, .if_icmp .gt 1403, 3) rfl
theorem dL_law_27 : decode cL_law 27 = .ok (.aload_n 0, 1) := tb_d tk_L_law_1 16 (27, .aload_n 0, 1) rfl
theorem dL_law_28 : decode cL_law 28 = .ok (.iload_n 3, 1) := tb_d tk_L_law_1 17 (28, .iload_n 3, 1) rfl
theorem dL_law_29 : decode cL_law 29 = .ok (.iaload, 1) := tb_d tk_L_law_1 18 (29, .iaload, 1) rfl
theorem dL_law_30 : decode cL_law 30 = .ok (.bipush 63, 2) := tb_d tk_L_law_1 19 (30, .bipush 63, 2) rfl
theorem dL_law_32 : decode cL_law 32 = .ok (.iand, 1) := tb_d tk_L_law_1 20 (32, .iand, 1) rfl
theorem dL_law_33 : decode cL_law 33 = .ok (.tableswitch 1388 0 38 #[171, 214, 257, 320, 343, 366, 379, 392, 415, 448, 471, 504, 517, 550, 593, 626, 659, 682, 725, 758, 791, 814, 827, 850, 863, 916, 959, 992, 1045, 1098, 1151, 1194, 1217, 1240, 1263, 1296, 1329, 1352, 1375], 171) := tb_d tk_L_law_1 21 (33, .tableswitch 1388 0 38 #[171, 214, 257, 320, 343, 366, 379, 392, 415, 448, 471, 504, 517, 550, 593, 626, 659, 682, 725, 758, 791, 814, 827, 850, 863, 916, 959, 992, 1045, 1098, 1151, 1194, 1217, 1240, 1263, 1296, 1329, 1352, 1375], 171) rfl
theorem dL_law_204 : decode cL_law 204 = .ok (.aload_n 1, 1) := tb_d tk_L_law_1 22 (204, .aload_n 1, 1) rfl
theorem dL_law_205 : decode cL_law 205 = .ok (.aload_n 0, 1) := tb_d tk_L_law_1 23 (205, .aload_n 0, 1) rfl
theorem dL_law_206 : decode cL_law 206 = .ok (.iload_n 3, 1) := tb_d tk_L_law_1 24 (206, .iload_n 3, 1) rfl
theorem dL_law_207 : decode cL_law 207 = .ok (.iconst 1, 1) := tb_d tk_L_law_1 25 (207, .iconst 1, 1) rfl
theorem dL_law_208 : decode cL_law 208 = .ok (.iadd, 1) := tb_d tk_L_law_1 26 (208, .iadd, 1) rfl
theorem dL_law_209 : decode cL_law 209 = .ok (.iaload, 1) := tb_d tk_L_law_1 27 (209, .iaload, 1) rfl
theorem dL_law_210 : decode cL_law 210 = .ok (.aload_n 0, 1) := tb_d tk_L_law_1 28 (210, .aload_n 0, 1) rfl
theorem dL_law_211 : decode cL_law 211 = .ok (.iload_n 3, 1) := tb_d tk_L_law_1 29 (211, .iload_n 3, 1) rfl
theorem dL_law_212 : decode cL_law 212 = .ok (.iconst 2, 1) := tb_d tk_L_law_1 30 (212, .iconst 2, 1) rfl
theorem dL_law_213 : decode cL_law 213 = .ok (.iadd, 1) := tb_d tk_L_law_1 31 (213, .iadd, 1) rfl
theorem dL_law_214 : decode cL_law 214 = .ok (.iaload, 1) := tb_d tk_L_law_1 32 (214, .iaload, 1) rfl
theorem dL_law_215 : decode cL_law 215 = .ok (.aload_n 0, 1) := tb_d tk_L_law_1 33 (215, .aload_n 0, 1) rfl
theorem dL_law_216 : decode cL_law 216 = .ok (.iload_n 3, 1) := tb_d tk_L_law_1 34 (216, .iload_n 3, 1) rfl
theorem dL_law_217 : decode cL_law 217 = .ok (.iconst 3, 1) := tb_d tk_L_law_1 35 (217, .iconst 3, 1) rfl
theorem dL_law_218 : decode cL_law 218 = .ok (.iadd, 1) := tb_d tk_L_law_1 36 (218, .iadd, 1) rfl
theorem dL_law_219 : decode cL_law 219 = .ok (.iaload, 1) := tb_d tk_L_law_1 37 (219, .iaload, 1) rfl
theorem dL_law_220 : decode cL_law 220 = .ok (.invokevirtual 13, 3) := tb_d tk_L_law_1 38 (220, .invokevirtual 13, 3) rfl
theorem dL_law_223 : decode cL_law 223 = .ok (.pop, 1) := tb_d tk_L_law_1 39 (223, .pop, 1) rfl
def tb_L_law_2 : List (Nat × Instr × Nat) := [(224, .aload_n 2, 1), (225, .aload_n 0, 1), (226, .iload_n 3, 1), (227, .iconst 1, 1), (228, .iadd, 1), (229, .iaload, 1), (230, .aload_n 0, 1), (231, .iload_n 3, 1), (232, .iconst 2, 1), (233, .iadd, 1), (234, .iaload, 1), (235, .aload_n 0, 1), (236, .iload_n 3, 1), (237, .iconst 3, 1), (238, .iadd, 1), (239, .iaload, 1), (240, .invokevirtual 17, 3), (243, .pop, 1), (244, .goto 1177, 3), (247, .aload_n 1, 1), (248, .aload_n 0, 1), (249, .iload_n 3, 1), (250, .iconst 1, 1), (251, .iadd, 1), (252, .iaload, 1), (253, .aload_n 0, 1), (254, .iload_n 3, 1), (255, .iconst 2, 1), (256, .iadd, 1), (257, .iaload, 1), (258, .aload_n 0, 1), (259, .iload_n 3, 1), (260, .iconst 3, 1), (261, .iadd, 1), (262, .iaload, 1), (263, .invokevirtual 18, 3), (266, .aload_n 2, 1), (267, .aload_n 0, 1), (268, .iload_n 3, 1), (269, .iconst 1, 1)]
set_option maxRecDepth 100000 in
theorem tk_L_law_2 : (tb_L_law_2.all fun q => decide (decode cL_law q.1 = .ok q.2)) = true := by decide +kernel
theorem dL_law_224 : decode cL_law 224 = .ok (.aload_n 2, 1) := tb_d tk_L_law_2 0 (224, .aload_n 2, 1) rfl
theorem dL_law_225 : decode cL_law 225 = .ok (.aload_n 0, 1) := tb_d tk_L_law_2 1 (225, .aload_n 0, 1) rfl
theorem dL_law_226 : decode cL_law 226 = .ok (.iload_n 3, 1) := tb_d tk_L_law_2 2 (226, .iload_n 3, 1) rfl
theorem dL_law_227 : decode cL_law 227 = .ok (.iconst 1, 1) := tb_d tk_L_law_2 3 (227, .iconst 1, 1) rfl
theorem dL_law_228 : decode cL_law 228 = .ok (.iadd, 1) := tb_d tk_L_law_2 4 (228, .iadd, 1) rfl
theorem dL_law_229 : decode cL_law 229 = .ok (.iaload, 1) := tb_d tk_L_law_2 5 (229, .iaload, 1) rfl
theorem dL_law_230 : decode cL_law 230 = .ok (.aload_n 0, 1) := tb_d tk_L_law_2 6 (230, .aload_n 0, 1) rfl
theorem dL_law_231 : decode cL_law 231 = .ok (.iload_n 3, 1) := tb_d tk_L_law_2 7 (231, .iload_n 3, 1) rfl
theorem dL_law_232 : decode cL_law 232 = .ok (.iconst 2, 1) := tb_d tk_L_law_2 8 (232, .iconst 2, 1) rfl
theorem dL_law_233 : decode cL_law 233 = .ok (.iadd, 1) := tb_d tk_L_law_2 9 (233, .iadd, 1) rfl
theorem dL_law_234 : decode cL_law 234 = .ok (.iaload, 1) := tb_d tk_L_law_2 10 (234, .iaload, 1) rfl
theorem dL_law_235 : decode cL_law 235 = .ok (.aload_n 0, 1) := tb_d tk_L_law_2 11 (235, .aload_n 0, 1) rfl
theorem dL_law_236 : decode cL_law 236 = .ok (.iload_n 3, 1) := tb_d tk_L_law_2 12 (236, .iload_n 3, 1) rfl
theorem dL_law_237 : decode cL_law 237 = .ok (.iconst 3, 1) := tb_d tk_L_law_2 13 (237, .iconst 3, 1) rfl
theorem dL_law_238 : decode cL_law 238 = .ok (.iadd, 1) := tb_d tk_L_law_2 14 (238, .iadd, 1) rfl
theorem dL_law_239 : decode cL_law 239 = .ok (.iaload, 1) := tb_d tk_L_law_2 15 (239, .iaload, 1) rfl
theorem dL_law_240 : decode cL_law 240 = .ok (.invokevirtual 17, 3) := tb_d tk_L_law_2 16 (240, .invokevirtual 17, 3) rfl
theorem dL_law_243 : decode cL_law 243 = .ok (.pop, 1) := tb_d tk_L_law_2 17 (243, .pop, 1) rfl
theorem dL_law_244 : decode cL_law 244 = .ok (.goto 1177, 3) := tb_d tk_L_law_2 18 (244, .goto 1177, 3) rfl
theorem dL_law_247 : decode cL_law 247 = .ok (.aload_n 1, 1) := tb_d tk_L_law_2 19 (247, .aload_n 1, 1) rfl
theorem dL_law_248 : decode cL_law 248 = .ok (.aload_n 0, 1) := tb_d tk_L_law_2 20 (248, .aload_n 0, 1) rfl
theorem dL_law_249 : decode cL_law 249 = .ok (.iload_n 3, 1) := tb_d tk_L_law_2 21 (249, .iload_n 3, 1) rfl
theorem dL_law_250 : decode cL_law 250 = .ok (.iconst 1, 1) := tb_d tk_L_law_2 22 (250, .iconst 1, 1) rfl
theorem dL_law_251 : decode cL_law 251 = .ok (.iadd, 1) := tb_d tk_L_law_2 23 (251, .iadd, 1) rfl
theorem dL_law_252 : decode cL_law 252 = .ok (.iaload, 1) := tb_d tk_L_law_2 24 (252, .iaload, 1) rfl
theorem dL_law_253 : decode cL_law 253 = .ok (.aload_n 0, 1) := tb_d tk_L_law_2 25 (253, .aload_n 0, 1) rfl
theorem dL_law_254 : decode cL_law 254 = .ok (.iload_n 3, 1) := tb_d tk_L_law_2 26 (254, .iload_n 3, 1) rfl
theorem dL_law_255 : decode cL_law 255 = .ok (.iconst 2, 1) := tb_d tk_L_law_2 27 (255, .iconst 2, 1) rfl
theorem dL_law_256 : decode cL_law 256 = .ok (.iadd, 1) := tb_d tk_L_law_2 28 (256, .iadd, 1) rfl
theorem dL_law_257 : decode cL_law 257 = .ok (.iaload, 1) := tb_d tk_L_law_2 29 (257, .iaload, 1) rfl
theorem dL_law_258 : decode cL_law 258 = .ok (.aload_n 0, 1) := tb_d tk_L_law_2 30 (258, .aload_n 0, 1) rfl
theorem dL_law_259 : decode cL_law 259 = .ok (.iload_n 3, 1) := tb_d tk_L_law_2 31 (259, .iload_n 3, 1) rfl
theorem dL_law_260 : decode cL_law 260 = .ok (.iconst 3, 1) := tb_d tk_L_law_2 32 (260, .iconst 3, 1) rfl
theorem dL_law_261 : decode cL_law 261 = .ok (.iadd, 1) := tb_d tk_L_law_2 33 (261, .iadd, 1) rfl
theorem dL_law_262 : decode cL_law 262 = .ok (.iaload, 1) := tb_d tk_L_law_2 34 (262, .iaload, 1) rfl
theorem dL_law_263 : decode cL_law 263 = .ok (.invokevirtual 18, 3) := tb_d tk_L_law_2 35 (263, .invokevirtual 18, 3) rfl
theorem dL_law_266 : decode cL_law 266 = .ok (.aload_n 2, 1) := tb_d tk_L_law_2 36 (266, .aload_n 2, 1) rfl
theorem dL_law_267 : decode cL_law 267 = .ok (.aload_n 0, 1) := tb_d tk_L_law_2 37 (267, .aload_n 0, 1) rfl
theorem dL_law_268 : decode cL_law 268 = .ok (.iload_n 3, 1) := tb_d tk_L_law_2 38 (268, .iload_n 3, 1) rfl
theorem dL_law_269 : decode cL_law 269 = .ok (.iconst 1, 1) := tb_d tk_L_law_2 39 (269, .iconst 1, 1) rfl
def tb_L_law_3 : List (Nat × Instr × Nat) := [(270, .iadd, 1), (271, .iaload, 1), (272, .aload_n 0, 1), (273, .iload_n 3, 1), (274, .iconst 2, 1), (275, .iadd, 1), (276, .iaload, 1), (277, .aload_n 0, 1), (278, .iload_n 3, 1), (279, .iconst 3, 1), (280, .iadd, 1), (281, .iaload, 1), (282, .invokevirtual 21, 3), (285, .if_icmp .eq 1136, 3), (288, .iconst 0, 1), (289, .ireturn, 1), (290, .aload_n 1, 1), (291, .aload_n 0, 1), (292, .iload_n 3, 1), (293, .iconst 1, 1), (294, .iadd, 1), (295, .iaload, 1), (296, .aload_n 0, 1), (297, .iload_n 3, 1), (298, .iconst 2, 1), (299, .iadd, 1), (300, .iaload, 1), (301, .aload_n 0, 1), (302, .iload_n 3, 1), (303, .iconst 3, 1), (304, .iadd, 1), (305, .iaload, 1), (306, .aload_n 0, 1), (307, .iload_n 3, 1), (308, .iconst 4, 1), (309, .iadd, 1), (310, .iaload, 1), (311, .aload_n 0, 1), (312, .iload_n 3, 1), (313, .iconst 5, 1)]
set_option maxRecDepth 100000 in
theorem tk_L_law_3 : (tb_L_law_3.all fun q => decide (decode cL_law q.1 = .ok q.2)) = true := by decide +kernel
theorem dL_law_270 : decode cL_law 270 = .ok (.iadd, 1) := tb_d tk_L_law_3 0 (270, .iadd, 1) rfl
theorem dL_law_271 : decode cL_law 271 = .ok (.iaload, 1) := tb_d tk_L_law_3 1 (271, .iaload, 1) rfl
theorem dL_law_272 : decode cL_law 272 = .ok (.aload_n 0, 1) := tb_d tk_L_law_3 2 (272, .aload_n 0, 1) rfl
theorem dL_law_273 : decode cL_law 273 = .ok (.iload_n 3, 1) := tb_d tk_L_law_3 3 (273, .iload_n 3, 1) rfl
theorem dL_law_274 : decode cL_law 274 = .ok (.iconst 2, 1) := tb_d tk_L_law_3 4 (274, .iconst 2, 1) rfl
theorem dL_law_275 : decode cL_law 275 = .ok (.iadd, 1) := tb_d tk_L_law_3 5 (275, .iadd, 1) rfl
theorem dL_law_276 : decode cL_law 276 = .ok (.iaload, 1) := tb_d tk_L_law_3 6 (276, .iaload, 1) rfl
theorem dL_law_277 : decode cL_law 277 = .ok (.aload_n 0, 1) := tb_d tk_L_law_3 7 (277, .aload_n 0, 1) rfl
theorem dL_law_278 : decode cL_law 278 = .ok (.iload_n 3, 1) := tb_d tk_L_law_3 8 (278, .iload_n 3, 1) rfl
theorem dL_law_279 : decode cL_law 279 = .ok (.iconst 3, 1) := tb_d tk_L_law_3 9 (279, .iconst 3, 1) rfl
theorem dL_law_280 : decode cL_law 280 = .ok (.iadd, 1) := tb_d tk_L_law_3 10 (280, .iadd, 1) rfl
theorem dL_law_281 : decode cL_law 281 = .ok (.iaload, 1) := tb_d tk_L_law_3 11 (281, .iaload, 1) rfl
theorem dL_law_282 : decode cL_law 282 = .ok (.invokevirtual 21, 3) := tb_d tk_L_law_3 12 (282, .invokevirtual 21, 3) rfl
theorem dL_law_285 : decode cL_law 285 = .ok (.if_icmp .eq 1136, 3) := tb_d tk_L_law_3 13 (285, .if_icmp .eq 1136, 3) rfl
theorem dL_law_288 : decode cL_law 288 = .ok (.iconst 0, 1) := tb_d tk_L_law_3 14 (288, .iconst 0, 1) rfl
theorem dL_law_289 : decode cL_law 289 = .ok (.ireturn, 1) := tb_d tk_L_law_3 15 (289, .ireturn, 1) rfl
theorem dL_law_290 : decode cL_law 290 = .ok (.aload_n 1, 1) := tb_d tk_L_law_3 16 (290, .aload_n 1, 1) rfl
theorem dL_law_291 : decode cL_law 291 = .ok (.aload_n 0, 1) := tb_d tk_L_law_3 17 (291, .aload_n 0, 1) rfl
theorem dL_law_292 : decode cL_law 292 = .ok (.iload_n 3, 1) := tb_d tk_L_law_3 18 (292, .iload_n 3, 1) rfl
theorem dL_law_293 : decode cL_law 293 = .ok (.iconst 1, 1) := tb_d tk_L_law_3 19 (293, .iconst 1, 1) rfl
theorem dL_law_294 : decode cL_law 294 = .ok (.iadd, 1) := tb_d tk_L_law_3 20 (294, .iadd, 1) rfl
theorem dL_law_295 : decode cL_law 295 = .ok (.iaload, 1) := tb_d tk_L_law_3 21 (295, .iaload, 1) rfl
theorem dL_law_296 : decode cL_law 296 = .ok (.aload_n 0, 1) := tb_d tk_L_law_3 22 (296, .aload_n 0, 1) rfl
theorem dL_law_297 : decode cL_law 297 = .ok (.iload_n 3, 1) := tb_d tk_L_law_3 23 (297, .iload_n 3, 1) rfl
theorem dL_law_298 : decode cL_law 298 = .ok (.iconst 2, 1) := tb_d tk_L_law_3 24 (298, .iconst 2, 1) rfl
theorem dL_law_299 : decode cL_law 299 = .ok (.iadd, 1) := tb_d tk_L_law_3 25 (299, .iadd, 1) rfl
theorem dL_law_300 : decode cL_law 300 = .ok (.iaload, 1) := tb_d tk_L_law_3 26 (300, .iaload, 1) rfl
theorem dL_law_301 : decode cL_law 301 = .ok (.aload_n 0, 1) := tb_d tk_L_law_3 27 (301, .aload_n 0, 1) rfl
theorem dL_law_302 : decode cL_law 302 = .ok (.iload_n 3, 1) := tb_d tk_L_law_3 28 (302, .iload_n 3, 1) rfl
theorem dL_law_303 : decode cL_law 303 = .ok (.iconst 3, 1) := tb_d tk_L_law_3 29 (303, .iconst 3, 1) rfl
theorem dL_law_304 : decode cL_law 304 = .ok (.iadd, 1) := tb_d tk_L_law_3 30 (304, .iadd, 1) rfl
theorem dL_law_305 : decode cL_law 305 = .ok (.iaload, 1) := tb_d tk_L_law_3 31 (305, .iaload, 1) rfl
theorem dL_law_306 : decode cL_law 306 = .ok (.aload_n 0, 1) := tb_d tk_L_law_3 32 (306, .aload_n 0, 1) rfl
theorem dL_law_307 : decode cL_law 307 = .ok (.iload_n 3, 1) := tb_d tk_L_law_3 33 (307, .iload_n 3, 1) rfl
theorem dL_law_308 : decode cL_law 308 = .ok (.iconst 4, 1) := tb_d tk_L_law_3 34 (308, .iconst 4, 1) rfl
theorem dL_law_309 : decode cL_law 309 = .ok (.iadd, 1) := tb_d tk_L_law_3 35 (309, .iadd, 1) rfl
theorem dL_law_310 : decode cL_law 310 = .ok (.iaload, 1) := tb_d tk_L_law_3 36 (310, .iaload, 1) rfl
theorem dL_law_311 : decode cL_law 311 = .ok (.aload_n 0, 1) := tb_d tk_L_law_3 37 (311, .aload_n 0, 1) rfl
theorem dL_law_312 : decode cL_law 312 = .ok (.iload_n 3, 1) := tb_d tk_L_law_3 38 (312, .iload_n 3, 1) rfl
theorem dL_law_313 : decode cL_law 313 = .ok (.iconst 5, 1) := tb_d tk_L_law_3 39 (313, .iconst 5, 1) rfl
def tb_L_law_4 : List (Nat × Instr × Nat) := [(314, .iadd, 1), (315, .iaload, 1), (316, .invokevirtual 22, 3), (319, .pop, 1), (320, .aload_n 2, 1), (321, .aload_n 0, 1), (322, .iload_n 3, 1), (323, .iconst 1, 1), (324, .iadd, 1), (325, .iaload, 1), (326, .aload_n 0, 1), (327, .iload_n 3, 1), (328, .iconst 2, 1), (329, .iadd, 1), (330, .iaload, 1), (331, .aload_n 0, 1), (332, .iload_n 3, 1), (333, .iconst 3, 1), (334, .iadd, 1), (335, .iaload, 1), (336, .aload_n 0, 1), (337, .iload_n 3, 1), (338, .iconst 4, 1), (339, .iadd, 1), (340, .iaload, 1), (341, .aload_n 0, 1), (342, .iload_n 3, 1), (343, .iconst 5, 1), (344, .iadd, 1), (345, .iaload, 1), (346, .invokevirtual 26, 3), (349, .pop, 1), (350, .goto 1071, 3), (353, .aload_n 1, 1), (354, .aload_n 0, 1), (355, .iload_n 3, 1), (356, .iconst 1, 1), (357, .iadd, 1), (358, .iaload, 1), (359, .invokevirtual 27, 3)]
set_option maxRecDepth 100000 in
theorem tk_L_law_4 : (tb_L_law_4.all fun q => decide (decode cL_law q.1 = .ok q.2)) = true := by decide +kernel
theorem dL_law_314 : decode cL_law 314 = .ok (.iadd, 1) := tb_d tk_L_law_4 0 (314, .iadd, 1) rfl
theorem dL_law_315 : decode cL_law 315 = .ok (.iaload, 1) := tb_d tk_L_law_4 1 (315, .iaload, 1) rfl
theorem dL_law_316 : decode cL_law 316 = .ok (.invokevirtual 22, 3) := tb_d tk_L_law_4 2 (316, .invokevirtual 22, 3) rfl
theorem dL_law_319 : decode cL_law 319 = .ok (.pop, 1) := tb_d tk_L_law_4 3 (319, .pop, 1) rfl
theorem dL_law_320 : decode cL_law 320 = .ok (.aload_n 2, 1) := tb_d tk_L_law_4 4 (320, .aload_n 2, 1) rfl
theorem dL_law_321 : decode cL_law 321 = .ok (.aload_n 0, 1) := tb_d tk_L_law_4 5 (321, .aload_n 0, 1) rfl
theorem dL_law_322 : decode cL_law 322 = .ok (.iload_n 3, 1) := tb_d tk_L_law_4 6 (322, .iload_n 3, 1) rfl
theorem dL_law_323 : decode cL_law 323 = .ok (.iconst 1, 1) := tb_d tk_L_law_4 7 (323, .iconst 1, 1) rfl
theorem dL_law_324 : decode cL_law 324 = .ok (.iadd, 1) := tb_d tk_L_law_4 8 (324, .iadd, 1) rfl
theorem dL_law_325 : decode cL_law 325 = .ok (.iaload, 1) := tb_d tk_L_law_4 9 (325, .iaload, 1) rfl
theorem dL_law_326 : decode cL_law 326 = .ok (.aload_n 0, 1) := tb_d tk_L_law_4 10 (326, .aload_n 0, 1) rfl
theorem dL_law_327 : decode cL_law 327 = .ok (.iload_n 3, 1) := tb_d tk_L_law_4 11 (327, .iload_n 3, 1) rfl
theorem dL_law_328 : decode cL_law 328 = .ok (.iconst 2, 1) := tb_d tk_L_law_4 12 (328, .iconst 2, 1) rfl
theorem dL_law_329 : decode cL_law 329 = .ok (.iadd, 1) := tb_d tk_L_law_4 13 (329, .iadd, 1) rfl
theorem dL_law_330 : decode cL_law 330 = .ok (.iaload, 1) := tb_d tk_L_law_4 14 (330, .iaload, 1) rfl
theorem dL_law_331 : decode cL_law 331 = .ok (.aload_n 0, 1) := tb_d tk_L_law_4 15 (331, .aload_n 0, 1) rfl
theorem dL_law_332 : decode cL_law 332 = .ok (.iload_n 3, 1) := tb_d tk_L_law_4 16 (332, .iload_n 3, 1) rfl
theorem dL_law_333 : decode cL_law 333 = .ok (.iconst 3, 1) := tb_d tk_L_law_4 17 (333, .iconst 3, 1) rfl
theorem dL_law_334 : decode cL_law 334 = .ok (.iadd, 1) := tb_d tk_L_law_4 18 (334, .iadd, 1) rfl
theorem dL_law_335 : decode cL_law 335 = .ok (.iaload, 1) := tb_d tk_L_law_4 19 (335, .iaload, 1) rfl
theorem dL_law_336 : decode cL_law 336 = .ok (.aload_n 0, 1) := tb_d tk_L_law_4 20 (336, .aload_n 0, 1) rfl
theorem dL_law_337 : decode cL_law 337 = .ok (.iload_n 3, 1) := tb_d tk_L_law_4 21 (337, .iload_n 3, 1) rfl
theorem dL_law_338 : decode cL_law 338 = .ok (.iconst 4, 1) := tb_d tk_L_law_4 22 (338, .iconst 4, 1) rfl
theorem dL_law_339 : decode cL_law 339 = .ok (.iadd, 1) := tb_d tk_L_law_4 23 (339, .iadd, 1) rfl
theorem dL_law_340 : decode cL_law 340 = .ok (.iaload, 1) := tb_d tk_L_law_4 24 (340, .iaload, 1) rfl
theorem dL_law_341 : decode cL_law 341 = .ok (.aload_n 0, 1) := tb_d tk_L_law_4 25 (341, .aload_n 0, 1) rfl
theorem dL_law_342 : decode cL_law 342 = .ok (.iload_n 3, 1) := tb_d tk_L_law_4 26 (342, .iload_n 3, 1) rfl
theorem dL_law_343 : decode cL_law 343 = .ok (.iconst 5, 1) := tb_d tk_L_law_4 27 (343, .iconst 5, 1) rfl
theorem dL_law_344 : decode cL_law 344 = .ok (.iadd, 1) := tb_d tk_L_law_4 28 (344, .iadd, 1) rfl
theorem dL_law_345 : decode cL_law 345 = .ok (.iaload, 1) := tb_d tk_L_law_4 29 (345, .iaload, 1) rfl
theorem dL_law_346 : decode cL_law 346 = .ok (.invokevirtual 26, 3) := tb_d tk_L_law_4 30 (346, .invokevirtual 26, 3) rfl
theorem dL_law_349 : decode cL_law 349 = .ok (.pop, 1) := tb_d tk_L_law_4 31 (349, .pop, 1) rfl
theorem dL_law_350 : decode cL_law 350 = .ok (.goto 1071, 3) := tb_d tk_L_law_4 32 (350, .goto 1071, 3) rfl
theorem dL_law_353 : decode cL_law 353 = .ok (.aload_n 1, 1) := tb_d tk_L_law_4 33 (353, .aload_n 1, 1) rfl
theorem dL_law_354 : decode cL_law 354 = .ok (.aload_n 0, 1) := tb_d tk_L_law_4 34 (354, .aload_n 0, 1) rfl
theorem dL_law_355 : decode cL_law 355 = .ok (.iload_n 3, 1) := tb_d tk_L_law_4 35 (355, .iload_n 3, 1) rfl
theorem dL_law_356 : decode cL_law 356 = .ok (.iconst 1, 1) := tb_d tk_L_law_4 36 (356, .iconst 1, 1) rfl
theorem dL_law_357 : decode cL_law 357 = .ok (.iadd, 1) := tb_d tk_L_law_4 37 (357, .iadd, 1) rfl
theorem dL_law_358 : decode cL_law 358 = .ok (.iaload, 1) := tb_d tk_L_law_4 38 (358, .iaload, 1) rfl
theorem dL_law_359 : decode cL_law 359 = .ok (.invokevirtual 27, 3) := tb_d tk_L_law_4 39 (359, .invokevirtual 27, 3) rfl
def tb_L_law_5 : List (Nat × Instr × Nat) := [(362, .pop, 1), (363, .aload_n 2, 1), (364, .aload_n 0, 1), (365, .iload_n 3, 1), (366, .iconst 1, 1), (367, .iadd, 1), (368, .iaload, 1), (369, .invokevirtual 31, 3), (372, .pop, 1), (373, .goto 1048, 3), (376, .aload_n 1, 1), (377, .aload_n 0, 1), (378, .iload_n 3, 1), (379, .iconst 1, 1), (380, .iadd, 1), (381, .iaload, 1), (382, .invokevirtual 32, 3), (385, .pop, 1), (386, .aload_n 2, 1), (387, .aload_n 0, 1), (388, .iload_n 3, 1), (389, .iconst 1, 1), (390, .iadd, 1), (391, .iaload, 1), (392, .invokevirtual 35, 3), (395, .pop, 1), (396, .goto 1025, 3), (399, .aload_n 1, 1), (400, .invokevirtual 36, 3), (403, .pop, 1), (404, .aload_n 2, 1), (405, .invokevirtual 40, 3), (408, .pop, 1), (409, .goto 1012, 3), (412, .aload_n 1, 1), (413, .invokevirtual 41, 3), (416, .pop, 1), (417, .aload_n 2, 1), (418, .invokevirtual 44, 3), (421, .pop, 1)]
set_option maxRecDepth 100000 in
theorem tk_L_law_5 : (tb_L_law_5.all fun q => decide (decode cL_law q.1 = .ok q.2)) = true := by decide +kernel
theorem dL_law_362 : decode cL_law 362 = .ok (.pop, 1) := tb_d tk_L_law_5 0 (362, .pop, 1) rfl
theorem dL_law_363 : decode cL_law 363 = .ok (.aload_n 2, 1) := tb_d tk_L_law_5 1 (363, .aload_n 2, 1) rfl
theorem dL_law_364 : decode cL_law 364 = .ok (.aload_n 0, 1) := tb_d tk_L_law_5 2 (364, .aload_n 0, 1) rfl
theorem dL_law_365 : decode cL_law 365 = .ok (.iload_n 3, 1) := tb_d tk_L_law_5 3 (365, .iload_n 3, 1) rfl
theorem dL_law_366 : decode cL_law 366 = .ok (.iconst 1, 1) := tb_d tk_L_law_5 4 (366, .iconst 1, 1) rfl
theorem dL_law_367 : decode cL_law 367 = .ok (.iadd, 1) := tb_d tk_L_law_5 5 (367, .iadd, 1) rfl
theorem dL_law_368 : decode cL_law 368 = .ok (.iaload, 1) := tb_d tk_L_law_5 6 (368, .iaload, 1) rfl
theorem dL_law_369 : decode cL_law 369 = .ok (.invokevirtual 31, 3) := tb_d tk_L_law_5 7 (369, .invokevirtual 31, 3) rfl
theorem dL_law_372 : decode cL_law 372 = .ok (.pop, 1) := tb_d tk_L_law_5 8 (372, .pop, 1) rfl
theorem dL_law_373 : decode cL_law 373 = .ok (.goto 1048, 3) := tb_d tk_L_law_5 9 (373, .goto 1048, 3) rfl
theorem dL_law_376 : decode cL_law 376 = .ok (.aload_n 1, 1) := tb_d tk_L_law_5 10 (376, .aload_n 1, 1) rfl
theorem dL_law_377 : decode cL_law 377 = .ok (.aload_n 0, 1) := tb_d tk_L_law_5 11 (377, .aload_n 0, 1) rfl
theorem dL_law_378 : decode cL_law 378 = .ok (.iload_n 3, 1) := tb_d tk_L_law_5 12 (378, .iload_n 3, 1) rfl
theorem dL_law_379 : decode cL_law 379 = .ok (.iconst 1, 1) := tb_d tk_L_law_5 13 (379, .iconst 1, 1) rfl
theorem dL_law_380 : decode cL_law 380 = .ok (.iadd, 1) := tb_d tk_L_law_5 14 (380, .iadd, 1) rfl
theorem dL_law_381 : decode cL_law 381 = .ok (.iaload, 1) := tb_d tk_L_law_5 15 (381, .iaload, 1) rfl
theorem dL_law_382 : decode cL_law 382 = .ok (.invokevirtual 32, 3) := tb_d tk_L_law_5 16 (382, .invokevirtual 32, 3) rfl
theorem dL_law_385 : decode cL_law 385 = .ok (.pop, 1) := tb_d tk_L_law_5 17 (385, .pop, 1) rfl
theorem dL_law_386 : decode cL_law 386 = .ok (.aload_n 2, 1) := tb_d tk_L_law_5 18 (386, .aload_n 2, 1) rfl
theorem dL_law_387 : decode cL_law 387 = .ok (.aload_n 0, 1) := tb_d tk_L_law_5 19 (387, .aload_n 0, 1) rfl
theorem dL_law_388 : decode cL_law 388 = .ok (.iload_n 3, 1) := tb_d tk_L_law_5 20 (388, .iload_n 3, 1) rfl
theorem dL_law_389 : decode cL_law 389 = .ok (.iconst 1, 1) := tb_d tk_L_law_5 21 (389, .iconst 1, 1) rfl
theorem dL_law_390 : decode cL_law 390 = .ok (.iadd, 1) := tb_d tk_L_law_5 22 (390, .iadd, 1) rfl
theorem dL_law_391 : decode cL_law 391 = .ok (.iaload, 1) := tb_d tk_L_law_5 23 (391, .iaload, 1) rfl
theorem dL_law_392 : decode cL_law 392 = .ok (.invokevirtual 35, 3) := tb_d tk_L_law_5 24 (392, .invokevirtual 35, 3) rfl
theorem dL_law_395 : decode cL_law 395 = .ok (.pop, 1) := tb_d tk_L_law_5 25 (395, .pop, 1) rfl
theorem dL_law_396 : decode cL_law 396 = .ok (.goto 1025, 3) := tb_d tk_L_law_5 26 (396, .goto 1025, 3) rfl
theorem dL_law_399 : decode cL_law 399 = .ok (.aload_n 1, 1) := tb_d tk_L_law_5 27 (399, .aload_n 1, 1) rfl
theorem dL_law_400 : decode cL_law 400 = .ok (.invokevirtual 36, 3) := tb_d tk_L_law_5 28 (400, .invokevirtual 36, 3) rfl
theorem dL_law_403 : decode cL_law 403 = .ok (.pop, 1) := tb_d tk_L_law_5 29 (403, .pop, 1) rfl
theorem dL_law_404 : decode cL_law 404 = .ok (.aload_n 2, 1) := tb_d tk_L_law_5 30 (404, .aload_n 2, 1) rfl
theorem dL_law_405 : decode cL_law 405 = .ok (.invokevirtual 40, 3) := tb_d tk_L_law_5 31 (405, .invokevirtual 40, 3) rfl
theorem dL_law_408 : decode cL_law 408 = .ok (.pop, 1) := tb_d tk_L_law_5 32 (408, .pop, 1) rfl
theorem dL_law_409 : decode cL_law 409 = .ok (.goto 1012, 3) := tb_d tk_L_law_5 33 (409, .goto 1012, 3) rfl
theorem dL_law_412 : decode cL_law 412 = .ok (.aload_n 1, 1) := tb_d tk_L_law_5 34 (412, .aload_n 1, 1) rfl
theorem dL_law_413 : decode cL_law 413 = .ok (.invokevirtual 41, 3) := tb_d tk_L_law_5 35 (413, .invokevirtual 41, 3) rfl
theorem dL_law_416 : decode cL_law 416 = .ok (.pop, 1) := tb_d tk_L_law_5 36 (416, .pop, 1) rfl
theorem dL_law_417 : decode cL_law 417 = .ok (.aload_n 2, 1) := tb_d tk_L_law_5 37 (417, .aload_n 2, 1) rfl
theorem dL_law_418 : decode cL_law 418 = .ok (.invokevirtual 44, 3) := tb_d tk_L_law_5 38 (418, .invokevirtual 44, 3) rfl
theorem dL_law_421 : decode cL_law 421 = .ok (.pop, 1) := tb_d tk_L_law_5 39 (421, .pop, 1) rfl
def tb_L_law_6 : List (Nat × Instr × Nat) := [(422, .goto 999, 3), (425, .aload_n 1, 1), (426, .aload_n 0, 1), (427, .iload_n 3, 1), (428, .iconst 1, 1), (429, .iadd, 1), (430, .iaload, 1), (431, .invokevirtual 45, 3), (434, .pop, 1), (435, .aload_n 2, 1), (436, .aload_n 0, 1), (437, .iload_n 3, 1), (438, .iconst 1, 1), (439, .iadd, 1), (440, .iaload, 1), (441, .invokevirtual 48, 3), (444, .pop, 1), (445, .goto 976, 3), (448, .aload_n 1, 1), (449, .aload_n 0, 1), (450, .iload_n 3, 1), (451, .iconst 1, 1), (452, .iadd, 1), (453, .iaload, 1), (454, .aload_n 0, 1), (455, .iload_n 3, 1), (456, .iconst 2, 1), (457, .iadd, 1), (458, .iaload, 1), (459, .invokevirtual 49, 3), (462, .pop, 1), (463, .aload_n 2, 1), (464, .aload_n 0, 1), (465, .iload_n 3, 1), (466, .iconst 1, 1), (467, .iadd, 1), (468, .iaload, 1), (469, .aload_n 0, 1), (470, .iload_n 3, 1), (471, .iconst 2, 1)]
set_option maxRecDepth 100000 in
theorem tk_L_law_6 : (tb_L_law_6.all fun q => decide (decode cL_law q.1 = .ok q.2)) = true := by decide +kernel
theorem dL_law_422 : decode cL_law 422 = .ok (.goto 999, 3) := tb_d tk_L_law_6 0 (422, .goto 999, 3) rfl
theorem dL_law_425 : decode cL_law 425 = .ok (.aload_n 1, 1) := tb_d tk_L_law_6 1 (425, .aload_n 1, 1) rfl
theorem dL_law_426 : decode cL_law 426 = .ok (.aload_n 0, 1) := tb_d tk_L_law_6 2 (426, .aload_n 0, 1) rfl
theorem dL_law_427 : decode cL_law 427 = .ok (.iload_n 3, 1) := tb_d tk_L_law_6 3 (427, .iload_n 3, 1) rfl
theorem dL_law_428 : decode cL_law 428 = .ok (.iconst 1, 1) := tb_d tk_L_law_6 4 (428, .iconst 1, 1) rfl
theorem dL_law_429 : decode cL_law 429 = .ok (.iadd, 1) := tb_d tk_L_law_6 5 (429, .iadd, 1) rfl
theorem dL_law_430 : decode cL_law 430 = .ok (.iaload, 1) := tb_d tk_L_law_6 6 (430, .iaload, 1) rfl
theorem dL_law_431 : decode cL_law 431 = .ok (.invokevirtual 45, 3) := tb_d tk_L_law_6 7 (431, .invokevirtual 45, 3) rfl
theorem dL_law_434 : decode cL_law 434 = .ok (.pop, 1) := tb_d tk_L_law_6 8 (434, .pop, 1) rfl
theorem dL_law_435 : decode cL_law 435 = .ok (.aload_n 2, 1) := tb_d tk_L_law_6 9 (435, .aload_n 2, 1) rfl
theorem dL_law_436 : decode cL_law 436 = .ok (.aload_n 0, 1) := tb_d tk_L_law_6 10 (436, .aload_n 0, 1) rfl
theorem dL_law_437 : decode cL_law 437 = .ok (.iload_n 3, 1) := tb_d tk_L_law_6 11 (437, .iload_n 3, 1) rfl
theorem dL_law_438 : decode cL_law 438 = .ok (.iconst 1, 1) := tb_d tk_L_law_6 12 (438, .iconst 1, 1) rfl
theorem dL_law_439 : decode cL_law 439 = .ok (.iadd, 1) := tb_d tk_L_law_6 13 (439, .iadd, 1) rfl
theorem dL_law_440 : decode cL_law 440 = .ok (.iaload, 1) := tb_d tk_L_law_6 14 (440, .iaload, 1) rfl
theorem dL_law_441 : decode cL_law 441 = .ok (.invokevirtual 48, 3) := tb_d tk_L_law_6 15 (441, .invokevirtual 48, 3) rfl
theorem dL_law_444 : decode cL_law 444 = .ok (.pop, 1) := tb_d tk_L_law_6 16 (444, .pop, 1) rfl
theorem dL_law_445 : decode cL_law 445 = .ok (.goto 976, 3) := tb_d tk_L_law_6 17 (445, .goto 976, 3) rfl
theorem dL_law_448 : decode cL_law 448 = .ok (.aload_n 1, 1) := tb_d tk_L_law_6 18 (448, .aload_n 1, 1) rfl
theorem dL_law_449 : decode cL_law 449 = .ok (.aload_n 0, 1) := tb_d tk_L_law_6 19 (449, .aload_n 0, 1) rfl
theorem dL_law_450 : decode cL_law 450 = .ok (.iload_n 3, 1) := tb_d tk_L_law_6 20 (450, .iload_n 3, 1) rfl
theorem dL_law_451 : decode cL_law 451 = .ok (.iconst 1, 1) := tb_d tk_L_law_6 21 (451, .iconst 1, 1) rfl
theorem dL_law_452 : decode cL_law 452 = .ok (.iadd, 1) := tb_d tk_L_law_6 22 (452, .iadd, 1) rfl
theorem dL_law_453 : decode cL_law 453 = .ok (.iaload, 1) := tb_d tk_L_law_6 23 (453, .iaload, 1) rfl
theorem dL_law_454 : decode cL_law 454 = .ok (.aload_n 0, 1) := tb_d tk_L_law_6 24 (454, .aload_n 0, 1) rfl
theorem dL_law_455 : decode cL_law 455 = .ok (.iload_n 3, 1) := tb_d tk_L_law_6 25 (455, .iload_n 3, 1) rfl
theorem dL_law_456 : decode cL_law 456 = .ok (.iconst 2, 1) := tb_d tk_L_law_6 26 (456, .iconst 2, 1) rfl
theorem dL_law_457 : decode cL_law 457 = .ok (.iadd, 1) := tb_d tk_L_law_6 27 (457, .iadd, 1) rfl
theorem dL_law_458 : decode cL_law 458 = .ok (.iaload, 1) := tb_d tk_L_law_6 28 (458, .iaload, 1) rfl
theorem dL_law_459 : decode cL_law 459 = .ok (.invokevirtual 49, 3) := tb_d tk_L_law_6 29 (459, .invokevirtual 49, 3) rfl
theorem dL_law_462 : decode cL_law 462 = .ok (.pop, 1) := tb_d tk_L_law_6 30 (462, .pop, 1) rfl
theorem dL_law_463 : decode cL_law 463 = .ok (.aload_n 2, 1) := tb_d tk_L_law_6 31 (463, .aload_n 2, 1) rfl
theorem dL_law_464 : decode cL_law 464 = .ok (.aload_n 0, 1) := tb_d tk_L_law_6 32 (464, .aload_n 0, 1) rfl
theorem dL_law_465 : decode cL_law 465 = .ok (.iload_n 3, 1) := tb_d tk_L_law_6 33 (465, .iload_n 3, 1) rfl
theorem dL_law_466 : decode cL_law 466 = .ok (.iconst 1, 1) := tb_d tk_L_law_6 34 (466, .iconst 1, 1) rfl
theorem dL_law_467 : decode cL_law 467 = .ok (.iadd, 1) := tb_d tk_L_law_6 35 (467, .iadd, 1) rfl
theorem dL_law_468 : decode cL_law 468 = .ok (.iaload, 1) := tb_d tk_L_law_6 36 (468, .iaload, 1) rfl
theorem dL_law_469 : decode cL_law 469 = .ok (.aload_n 0, 1) := tb_d tk_L_law_6 37 (469, .aload_n 0, 1) rfl
theorem dL_law_470 : decode cL_law 470 = .ok (.iload_n 3, 1) := tb_d tk_L_law_6 38 (470, .iload_n 3, 1) rfl
theorem dL_law_471 : decode cL_law 471 = .ok (.iconst 2, 1) := tb_d tk_L_law_6 39 (471, .iconst 2, 1) rfl
def tb_L_law_7 : List (Nat × Instr × Nat) := [(472, .iadd, 1), (473, .iaload, 1), (474, .invokevirtual 53, 3), (477, .pop, 1), (478, .goto 943, 3), (481, .aload_n 1, 1), (482, .aload_n 0, 1), (483, .iload_n 3, 1), (484, .iconst 1, 1), (485, .iadd, 1), (486, .iaload, 1), (487, .invokevirtual 54, 3), (490, .pop, 1), (491, .aload_n 2, 1), (492, .aload_n 0, 1), (493, .iload_n 3, 1), (494, .iconst 1, 1), (495, .iadd, 1), (496, .iaload, 1), (497, .invokevirtual 57, 3), (500, .pop, 1), (501, .goto 920, 3), (504, .aload_n 1, 1), (505, .aload_n 0, 1), (506, .iload_n 3, 1), (507, .iconst 1, 1), (508, .iadd, 1), (509, .iaload, 1), (510, .aload_n 0, 1), (511, .iload_n 3, 1), (512, .iconst 2, 1), (513, .iadd, 1), (514, .iaload, 1), (515, .invokevirtual 58, 3), (518, .pop, 1), (519, .aload_n 2, 1), (520, .aload_n 0, 1), (521, .iload_n 3, 1), (522, .iconst 1, 1), (523, .iadd, 1)]
set_option maxRecDepth 100000 in
theorem tk_L_law_7 : (tb_L_law_7.all fun q => decide (decode cL_law q.1 = .ok q.2)) = true := by decide +kernel
theorem dL_law_472 : decode cL_law 472 = .ok (.iadd, 1) := tb_d tk_L_law_7 0 (472, .iadd, 1) rfl
theorem dL_law_473 : decode cL_law 473 = .ok (.iaload, 1) := tb_d tk_L_law_7 1 (473, .iaload, 1) rfl
theorem dL_law_474 : decode cL_law 474 = .ok (.invokevirtual 53, 3) := tb_d tk_L_law_7 2 (474, .invokevirtual 53, 3) rfl
theorem dL_law_477 : decode cL_law 477 = .ok (.pop, 1) := tb_d tk_L_law_7 3 (477, .pop, 1) rfl
theorem dL_law_478 : decode cL_law 478 = .ok (.goto 943, 3) := tb_d tk_L_law_7 4 (478, .goto 943, 3) rfl
theorem dL_law_481 : decode cL_law 481 = .ok (.aload_n 1, 1) := tb_d tk_L_law_7 5 (481, .aload_n 1, 1) rfl
theorem dL_law_482 : decode cL_law 482 = .ok (.aload_n 0, 1) := tb_d tk_L_law_7 6 (482, .aload_n 0, 1) rfl
theorem dL_law_483 : decode cL_law 483 = .ok (.iload_n 3, 1) := tb_d tk_L_law_7 7 (483, .iload_n 3, 1) rfl
theorem dL_law_484 : decode cL_law 484 = .ok (.iconst 1, 1) := tb_d tk_L_law_7 8 (484, .iconst 1, 1) rfl
theorem dL_law_485 : decode cL_law 485 = .ok (.iadd, 1) := tb_d tk_L_law_7 9 (485, .iadd, 1) rfl
theorem dL_law_486 : decode cL_law 486 = .ok (.iaload, 1) := tb_d tk_L_law_7 10 (486, .iaload, 1) rfl
theorem dL_law_487 : decode cL_law 487 = .ok (.invokevirtual 54, 3) := tb_d tk_L_law_7 11 (487, .invokevirtual 54, 3) rfl
theorem dL_law_490 : decode cL_law 490 = .ok (.pop, 1) := tb_d tk_L_law_7 12 (490, .pop, 1) rfl
theorem dL_law_491 : decode cL_law 491 = .ok (.aload_n 2, 1) := tb_d tk_L_law_7 13 (491, .aload_n 2, 1) rfl
theorem dL_law_492 : decode cL_law 492 = .ok (.aload_n 0, 1) := tb_d tk_L_law_7 14 (492, .aload_n 0, 1) rfl
theorem dL_law_493 : decode cL_law 493 = .ok (.iload_n 3, 1) := tb_d tk_L_law_7 15 (493, .iload_n 3, 1) rfl
theorem dL_law_494 : decode cL_law 494 = .ok (.iconst 1, 1) := tb_d tk_L_law_7 16 (494, .iconst 1, 1) rfl
theorem dL_law_495 : decode cL_law 495 = .ok (.iadd, 1) := tb_d tk_L_law_7 17 (495, .iadd, 1) rfl
theorem dL_law_496 : decode cL_law 496 = .ok (.iaload, 1) := tb_d tk_L_law_7 18 (496, .iaload, 1) rfl
theorem dL_law_497 : decode cL_law 497 = .ok (.invokevirtual 57, 3) := tb_d tk_L_law_7 19 (497, .invokevirtual 57, 3) rfl
theorem dL_law_500 : decode cL_law 500 = .ok (.pop, 1) := tb_d tk_L_law_7 20 (500, .pop, 1) rfl
theorem dL_law_501 : decode cL_law 501 = .ok (.goto 920, 3) := tb_d tk_L_law_7 21 (501, .goto 920, 3) rfl
theorem dL_law_504 : decode cL_law 504 = .ok (.aload_n 1, 1) := tb_d tk_L_law_7 22 (504, .aload_n 1, 1) rfl
theorem dL_law_505 : decode cL_law 505 = .ok (.aload_n 0, 1) := tb_d tk_L_law_7 23 (505, .aload_n 0, 1) rfl
theorem dL_law_506 : decode cL_law 506 = .ok (.iload_n 3, 1) := tb_d tk_L_law_7 24 (506, .iload_n 3, 1) rfl
theorem dL_law_507 : decode cL_law 507 = .ok (.iconst 1, 1) := tb_d tk_L_law_7 25 (507, .iconst 1, 1) rfl
theorem dL_law_508 : decode cL_law 508 = .ok (.iadd, 1) := tb_d tk_L_law_7 26 (508, .iadd, 1) rfl
theorem dL_law_509 : decode cL_law 509 = .ok (.iaload, 1) := tb_d tk_L_law_7 27 (509, .iaload, 1) rfl
theorem dL_law_510 : decode cL_law 510 = .ok (.aload_n 0, 1) := tb_d tk_L_law_7 28 (510, .aload_n 0, 1) rfl
theorem dL_law_511 : decode cL_law 511 = .ok (.iload_n 3, 1) := tb_d tk_L_law_7 29 (511, .iload_n 3, 1) rfl
theorem dL_law_512 : decode cL_law 512 = .ok (.iconst 2, 1) := tb_d tk_L_law_7 30 (512, .iconst 2, 1) rfl
theorem dL_law_513 : decode cL_law 513 = .ok (.iadd, 1) := tb_d tk_L_law_7 31 (513, .iadd, 1) rfl
theorem dL_law_514 : decode cL_law 514 = .ok (.iaload, 1) := tb_d tk_L_law_7 32 (514, .iaload, 1) rfl
theorem dL_law_515 : decode cL_law 515 = .ok (.invokevirtual 58, 3) := tb_d tk_L_law_7 33 (515, .invokevirtual 58, 3) rfl
theorem dL_law_518 : decode cL_law 518 = .ok (.pop, 1) := tb_d tk_L_law_7 34 (518, .pop, 1) rfl
theorem dL_law_519 : decode cL_law 519 = .ok (.aload_n 2, 1) := tb_d tk_L_law_7 35 (519, .aload_n 2, 1) rfl
theorem dL_law_520 : decode cL_law 520 = .ok (.aload_n 0, 1) := tb_d tk_L_law_7 36 (520, .aload_n 0, 1) rfl
theorem dL_law_521 : decode cL_law 521 = .ok (.iload_n 3, 1) := tb_d tk_L_law_7 37 (521, .iload_n 3, 1) rfl
theorem dL_law_522 : decode cL_law 522 = .ok (.iconst 1, 1) := tb_d tk_L_law_7 38 (522, .iconst 1, 1) rfl
theorem dL_law_523 : decode cL_law 523 = .ok (.iadd, 1) := tb_d tk_L_law_7 39 (523, .iadd, 1) rfl
def tb_L_law_8 : List (Nat × Instr × Nat) := [(524, .iaload, 1), (525, .aload_n 0, 1), (526, .iload_n 3, 1), (527, .iconst 2, 1), (528, .iadd, 1), (529, .iaload, 1), (530, .invokevirtual 61, 3), (533, .pop, 1), (534, .goto 887, 3), (537, .aload_n 1, 1), (538, .invokevirtual 62, 3), (541, .pop, 1), (542, .aload_n 2, 1), (543, .invokevirtual 65, 3), (546, .pop, 1), (547, .goto 874, 3), (550, .aload_n 1, 1), (551, .aload_n 0, 1), (552, .iload_n 3, 1), (553, .iconst 1, 1), (554, .iadd, 1), (555, .iaload, 1), (556, .aload_n 0, 1), (557, .iload_n 3, 1), (558, .iconst 2, 1), (559, .iadd, 1), (560, .iaload, 1), (561, .invokevirtual 66, 3), (564, .pop, 1), (565, .aload_n 2, 1), (566, .aload_n 0, 1), (567, .iload_n 3, 1), (568, .iconst 1, 1), (569, .iadd, 1), (570, .iaload, 1), (571, .aload_n 0, 1), (572, .iload_n 3, 1), (573, .iconst 2, 1), (574, .iadd, 1), (575, .iaload, 1)]
set_option maxRecDepth 100000 in
theorem tk_L_law_8 : (tb_L_law_8.all fun q => decide (decode cL_law q.1 = .ok q.2)) = true := by decide +kernel
theorem dL_law_524 : decode cL_law 524 = .ok (.iaload, 1) := tb_d tk_L_law_8 0 (524, .iaload, 1) rfl
theorem dL_law_525 : decode cL_law 525 = .ok (.aload_n 0, 1) := tb_d tk_L_law_8 1 (525, .aload_n 0, 1) rfl
theorem dL_law_526 : decode cL_law 526 = .ok (.iload_n 3, 1) := tb_d tk_L_law_8 2 (526, .iload_n 3, 1) rfl
theorem dL_law_527 : decode cL_law 527 = .ok (.iconst 2, 1) := tb_d tk_L_law_8 3 (527, .iconst 2, 1) rfl
theorem dL_law_528 : decode cL_law 528 = .ok (.iadd, 1) := tb_d tk_L_law_8 4 (528, .iadd, 1) rfl
theorem dL_law_529 : decode cL_law 529 = .ok (.iaload, 1) := tb_d tk_L_law_8 5 (529, .iaload, 1) rfl
theorem dL_law_530 : decode cL_law 530 = .ok (.invokevirtual 61, 3) := tb_d tk_L_law_8 6 (530, .invokevirtual 61, 3) rfl
theorem dL_law_533 : decode cL_law 533 = .ok (.pop, 1) := tb_d tk_L_law_8 7 (533, .pop, 1) rfl
theorem dL_law_534 : decode cL_law 534 = .ok (.goto 887, 3) := tb_d tk_L_law_8 8 (534, .goto 887, 3) rfl
theorem dL_law_537 : decode cL_law 537 = .ok (.aload_n 1, 1) := tb_d tk_L_law_8 9 (537, .aload_n 1, 1) rfl
theorem dL_law_538 : decode cL_law 538 = .ok (.invokevirtual 62, 3) := tb_d tk_L_law_8 10 (538, .invokevirtual 62, 3) rfl
theorem dL_law_541 : decode cL_law 541 = .ok (.pop, 1) := tb_d tk_L_law_8 11 (541, .pop, 1) rfl
theorem dL_law_542 : decode cL_law 542 = .ok (.aload_n 2, 1) := tb_d tk_L_law_8 12 (542, .aload_n 2, 1) rfl
theorem dL_law_543 : decode cL_law 543 = .ok (.invokevirtual 65, 3) := tb_d tk_L_law_8 13 (543, .invokevirtual 65, 3) rfl
theorem dL_law_546 : decode cL_law 546 = .ok (.pop, 1) := tb_d tk_L_law_8 14 (546, .pop, 1) rfl
theorem dL_law_547 : decode cL_law 547 = .ok (.goto 874, 3) := tb_d tk_L_law_8 15 (547, .goto 874, 3) rfl
theorem dL_law_550 : decode cL_law 550 = .ok (.aload_n 1, 1) := tb_d tk_L_law_8 16 (550, .aload_n 1, 1) rfl
theorem dL_law_551 : decode cL_law 551 = .ok (.aload_n 0, 1) := tb_d tk_L_law_8 17 (551, .aload_n 0, 1) rfl
theorem dL_law_552 : decode cL_law 552 = .ok (.iload_n 3, 1) := tb_d tk_L_law_8 18 (552, .iload_n 3, 1) rfl
theorem dL_law_553 : decode cL_law 553 = .ok (.iconst 1, 1) := tb_d tk_L_law_8 19 (553, .iconst 1, 1) rfl
theorem dL_law_554 : decode cL_law 554 = .ok (.iadd, 1) := tb_d tk_L_law_8 20 (554, .iadd, 1) rfl
theorem dL_law_555 : decode cL_law 555 = .ok (.iaload, 1) := tb_d tk_L_law_8 21 (555, .iaload, 1) rfl
theorem dL_law_556 : decode cL_law 556 = .ok (.aload_n 0, 1) := tb_d tk_L_law_8 22 (556, .aload_n 0, 1) rfl
theorem dL_law_557 : decode cL_law 557 = .ok (.iload_n 3, 1) := tb_d tk_L_law_8 23 (557, .iload_n 3, 1) rfl
theorem dL_law_558 : decode cL_law 558 = .ok (.iconst 2, 1) := tb_d tk_L_law_8 24 (558, .iconst 2, 1) rfl
theorem dL_law_559 : decode cL_law 559 = .ok (.iadd, 1) := tb_d tk_L_law_8 25 (559, .iadd, 1) rfl
theorem dL_law_560 : decode cL_law 560 = .ok (.iaload, 1) := tb_d tk_L_law_8 26 (560, .iaload, 1) rfl
theorem dL_law_561 : decode cL_law 561 = .ok (.invokevirtual 66, 3) := tb_d tk_L_law_8 27 (561, .invokevirtual 66, 3) rfl
theorem dL_law_564 : decode cL_law 564 = .ok (.pop, 1) := tb_d tk_L_law_8 28 (564, .pop, 1) rfl
theorem dL_law_565 : decode cL_law 565 = .ok (.aload_n 2, 1) := tb_d tk_L_law_8 29 (565, .aload_n 2, 1) rfl
theorem dL_law_566 : decode cL_law 566 = .ok (.aload_n 0, 1) := tb_d tk_L_law_8 30 (566, .aload_n 0, 1) rfl
theorem dL_law_567 : decode cL_law 567 = .ok (.iload_n 3, 1) := tb_d tk_L_law_8 31 (567, .iload_n 3, 1) rfl
theorem dL_law_568 : decode cL_law 568 = .ok (.iconst 1, 1) := tb_d tk_L_law_8 32 (568, .iconst 1, 1) rfl
theorem dL_law_569 : decode cL_law 569 = .ok (.iadd, 1) := tb_d tk_L_law_8 33 (569, .iadd, 1) rfl
theorem dL_law_570 : decode cL_law 570 = .ok (.iaload, 1) := tb_d tk_L_law_8 34 (570, .iaload, 1) rfl
theorem dL_law_571 : decode cL_law 571 = .ok (.aload_n 0, 1) := tb_d tk_L_law_8 35 (571, .aload_n 0, 1) rfl
theorem dL_law_572 : decode cL_law 572 = .ok (.iload_n 3, 1) := tb_d tk_L_law_8 36 (572, .iload_n 3, 1) rfl
theorem dL_law_573 : decode cL_law 573 = .ok (.iconst 2, 1) := tb_d tk_L_law_8 37 (573, .iconst 2, 1) rfl
theorem dL_law_574 : decode cL_law 574 = .ok (.iadd, 1) := tb_d tk_L_law_8 38 (574, .iadd, 1) rfl
theorem dL_law_575 : decode cL_law 575 = .ok (.iaload, 1) := tb_d tk_L_law_8 39 (575, .iaload, 1) rfl
def tb_L_law_9 : List (Nat × Instr × Nat) := [(576, .invokevirtual 69, 3), (579, .pop, 1), (580, .goto 841, 3), (583, .aload_n 1, 1), (584, .aload_n 0, 1), (585, .iload_n 3, 1), (586, .iconst 1, 1), (587, .iadd, 1), (588, .iaload, 1), (589, .aload_n 0, 1), (590, .iload_n 3, 1), (591, .iconst 2, 1), (592, .iadd, 1), (593, .iaload, 1), (594, .aload_n 0, 1), (595, .iload_n 3, 1), (596, .iconst 3, 1), (597, .iadd, 1), (598, .iaload, 1), (599, .invokevirtual 70, 3), (602, .pop, 1), (603, .aload_n 2, 1), (604, .aload_n 0, 1), (605, .iload_n 3, 1), (606, .iconst 1, 1), (607, .iadd, 1), (608, .iaload, 1), (609, .aload_n 0, 1), (610, .iload_n 3, 1), (611, .iconst 2, 1), (612, .iadd, 1), (613, .iaload, 1), (614, .aload_n 0, 1), (615, .iload_n 3, 1), (616, .iconst 3, 1), (617, .iadd, 1), (618, .iaload, 1), (619, .invokevirtual 73, 3), (622, .pop, 1), (623, .goto 798, 3)]
set_option maxRecDepth 100000 in
theorem tk_L_law_9 : (tb_L_law_9.all fun q => decide (decode cL_law q.1 = .ok q.2)) = true := by decide +kernel
theorem dL_law_576 : decode cL_law 576 = .ok (.invokevirtual 69, 3) := tb_d tk_L_law_9 0 (576, .invokevirtual 69, 3) rfl
theorem dL_law_579 : decode cL_law 579 = .ok (.pop, 1) := tb_d tk_L_law_9 1 (579, .pop, 1) rfl
theorem dL_law_580 : decode cL_law 580 = .ok (.goto 841, 3) := tb_d tk_L_law_9 2 (580, .goto 841, 3) rfl
theorem dL_law_583 : decode cL_law 583 = .ok (.aload_n 1, 1) := tb_d tk_L_law_9 3 (583, .aload_n 1, 1) rfl
theorem dL_law_584 : decode cL_law 584 = .ok (.aload_n 0, 1) := tb_d tk_L_law_9 4 (584, .aload_n 0, 1) rfl
theorem dL_law_585 : decode cL_law 585 = .ok (.iload_n 3, 1) := tb_d tk_L_law_9 5 (585, .iload_n 3, 1) rfl
theorem dL_law_586 : decode cL_law 586 = .ok (.iconst 1, 1) := tb_d tk_L_law_9 6 (586, .iconst 1, 1) rfl
theorem dL_law_587 : decode cL_law 587 = .ok (.iadd, 1) := tb_d tk_L_law_9 7 (587, .iadd, 1) rfl
theorem dL_law_588 : decode cL_law 588 = .ok (.iaload, 1) := tb_d tk_L_law_9 8 (588, .iaload, 1) rfl
theorem dL_law_589 : decode cL_law 589 = .ok (.aload_n 0, 1) := tb_d tk_L_law_9 9 (589, .aload_n 0, 1) rfl
theorem dL_law_590 : decode cL_law 590 = .ok (.iload_n 3, 1) := tb_d tk_L_law_9 10 (590, .iload_n 3, 1) rfl
theorem dL_law_591 : decode cL_law 591 = .ok (.iconst 2, 1) := tb_d tk_L_law_9 11 (591, .iconst 2, 1) rfl
theorem dL_law_592 : decode cL_law 592 = .ok (.iadd, 1) := tb_d tk_L_law_9 12 (592, .iadd, 1) rfl
theorem dL_law_593 : decode cL_law 593 = .ok (.iaload, 1) := tb_d tk_L_law_9 13 (593, .iaload, 1) rfl
theorem dL_law_594 : decode cL_law 594 = .ok (.aload_n 0, 1) := tb_d tk_L_law_9 14 (594, .aload_n 0, 1) rfl
theorem dL_law_595 : decode cL_law 595 = .ok (.iload_n 3, 1) := tb_d tk_L_law_9 15 (595, .iload_n 3, 1) rfl
theorem dL_law_596 : decode cL_law 596 = .ok (.iconst 3, 1) := tb_d tk_L_law_9 16 (596, .iconst 3, 1) rfl
theorem dL_law_597 : decode cL_law 597 = .ok (.iadd, 1) := tb_d tk_L_law_9 17 (597, .iadd, 1) rfl
theorem dL_law_598 : decode cL_law 598 = .ok (.iaload, 1) := tb_d tk_L_law_9 18 (598, .iaload, 1) rfl
theorem dL_law_599 : decode cL_law 599 = .ok (.invokevirtual 70, 3) := tb_d tk_L_law_9 19 (599, .invokevirtual 70, 3) rfl
theorem dL_law_602 : decode cL_law 602 = .ok (.pop, 1) := tb_d tk_L_law_9 20 (602, .pop, 1) rfl
theorem dL_law_603 : decode cL_law 603 = .ok (.aload_n 2, 1) := tb_d tk_L_law_9 21 (603, .aload_n 2, 1) rfl
theorem dL_law_604 : decode cL_law 604 = .ok (.aload_n 0, 1) := tb_d tk_L_law_9 22 (604, .aload_n 0, 1) rfl
theorem dL_law_605 : decode cL_law 605 = .ok (.iload_n 3, 1) := tb_d tk_L_law_9 23 (605, .iload_n 3, 1) rfl
theorem dL_law_606 : decode cL_law 606 = .ok (.iconst 1, 1) := tb_d tk_L_law_9 24 (606, .iconst 1, 1) rfl
theorem dL_law_607 : decode cL_law 607 = .ok (.iadd, 1) := tb_d tk_L_law_9 25 (607, .iadd, 1) rfl
theorem dL_law_608 : decode cL_law 608 = .ok (.iaload, 1) := tb_d tk_L_law_9 26 (608, .iaload, 1) rfl
theorem dL_law_609 : decode cL_law 609 = .ok (.aload_n 0, 1) := tb_d tk_L_law_9 27 (609, .aload_n 0, 1) rfl
theorem dL_law_610 : decode cL_law 610 = .ok (.iload_n 3, 1) := tb_d tk_L_law_9 28 (610, .iload_n 3, 1) rfl
theorem dL_law_611 : decode cL_law 611 = .ok (.iconst 2, 1) := tb_d tk_L_law_9 29 (611, .iconst 2, 1) rfl
theorem dL_law_612 : decode cL_law 612 = .ok (.iadd, 1) := tb_d tk_L_law_9 30 (612, .iadd, 1) rfl
theorem dL_law_613 : decode cL_law 613 = .ok (.iaload, 1) := tb_d tk_L_law_9 31 (613, .iaload, 1) rfl
theorem dL_law_614 : decode cL_law 614 = .ok (.aload_n 0, 1) := tb_d tk_L_law_9 32 (614, .aload_n 0, 1) rfl
theorem dL_law_615 : decode cL_law 615 = .ok (.iload_n 3, 1) := tb_d tk_L_law_9 33 (615, .iload_n 3, 1) rfl
theorem dL_law_616 : decode cL_law 616 = .ok (.iconst 3, 1) := tb_d tk_L_law_9 34 (616, .iconst 3, 1) rfl
theorem dL_law_617 : decode cL_law 617 = .ok (.iadd, 1) := tb_d tk_L_law_9 35 (617, .iadd, 1) rfl
theorem dL_law_618 : decode cL_law 618 = .ok (.iaload, 1) := tb_d tk_L_law_9 36 (618, .iaload, 1) rfl
theorem dL_law_619 : decode cL_law 619 = .ok (.invokevirtual 73, 3) := tb_d tk_L_law_9 37 (619, .invokevirtual 73, 3) rfl
theorem dL_law_622 : decode cL_law 622 = .ok (.pop, 1) := tb_d tk_L_law_9 38 (622, .pop, 1) rfl
theorem dL_law_623 : decode cL_law 623 = .ok (.goto 798, 3) := tb_d tk_L_law_9 39 (623, .goto 798, 3) rfl
def tb_L_law_10 : List (Nat × Instr × Nat) := [(626, .aload_n 1, 1), (627, .aload_n 0, 1), (628, .iload_n 3, 1), (629, .iconst 1, 1), (630, .iadd, 1), (631, .iaload, 1), (632, .aload_n 0, 1), (633, .iload_n 3, 1), (634, .iconst 2, 1), (635, .iadd, 1), (636, .iaload, 1), (637, .invokevirtual 74, 3), (640, .pop, 1), (641, .aload_n 2, 1), (642, .aload_n 0, 1), (643, .iload_n 3, 1), (644, .iconst 1, 1), (645, .iadd, 1), (646, .iaload, 1), (647, .aload_n 0, 1), (648, .iload_n 3, 1), (649, .iconst 2, 1), (650, .iadd, 1), (651, .iaload, 1), (652, .invokevirtual 77, 3), (655, .pop, 1), (656, .goto 765, 3), (659, .aload_n 1, 1), (660, .aload_n 0, 1), (661, .iload_n 3, 1), (662, .iconst 1, 1), (663, .iadd, 1), (664, .iaload, 1), (665, .aload_n 0, 1), (666, .iload_n 3, 1), (667, .iconst 2, 1), (668, .iadd, 1), (669, .iaload, 1), (670, .invokevirtual 78, 3), (673, .pop, 1)]
set_option maxRecDepth 100000 in
theorem tk_L_law_10 : (tb_L_law_10.all fun q => decide (decode cL_law q.1 = .ok q.2)) = true := by decide +kernel
theorem dL_law_626 : decode cL_law 626 = .ok (.aload_n 1, 1) := tb_d tk_L_law_10 0 (626, .aload_n 1, 1) rfl
theorem dL_law_627 : decode cL_law 627 = .ok (.aload_n 0, 1) := tb_d tk_L_law_10 1 (627, .aload_n 0, 1) rfl
theorem dL_law_628 : decode cL_law 628 = .ok (.iload_n 3, 1) := tb_d tk_L_law_10 2 (628, .iload_n 3, 1) rfl
theorem dL_law_629 : decode cL_law 629 = .ok (.iconst 1, 1) := tb_d tk_L_law_10 3 (629, .iconst 1, 1) rfl
theorem dL_law_630 : decode cL_law 630 = .ok (.iadd, 1) := tb_d tk_L_law_10 4 (630, .iadd, 1) rfl
theorem dL_law_631 : decode cL_law 631 = .ok (.iaload, 1) := tb_d tk_L_law_10 5 (631, .iaload, 1) rfl
theorem dL_law_632 : decode cL_law 632 = .ok (.aload_n 0, 1) := tb_d tk_L_law_10 6 (632, .aload_n 0, 1) rfl
theorem dL_law_633 : decode cL_law 633 = .ok (.iload_n 3, 1) := tb_d tk_L_law_10 7 (633, .iload_n 3, 1) rfl
theorem dL_law_634 : decode cL_law 634 = .ok (.iconst 2, 1) := tb_d tk_L_law_10 8 (634, .iconst 2, 1) rfl
theorem dL_law_635 : decode cL_law 635 = .ok (.iadd, 1) := tb_d tk_L_law_10 9 (635, .iadd, 1) rfl
theorem dL_law_636 : decode cL_law 636 = .ok (.iaload, 1) := tb_d tk_L_law_10 10 (636, .iaload, 1) rfl
theorem dL_law_637 : decode cL_law 637 = .ok (.invokevirtual 74, 3) := tb_d tk_L_law_10 11 (637, .invokevirtual 74, 3) rfl
theorem dL_law_640 : decode cL_law 640 = .ok (.pop, 1) := tb_d tk_L_law_10 12 (640, .pop, 1) rfl
theorem dL_law_641 : decode cL_law 641 = .ok (.aload_n 2, 1) := tb_d tk_L_law_10 13 (641, .aload_n 2, 1) rfl
theorem dL_law_642 : decode cL_law 642 = .ok (.aload_n 0, 1) := tb_d tk_L_law_10 14 (642, .aload_n 0, 1) rfl
theorem dL_law_643 : decode cL_law 643 = .ok (.iload_n 3, 1) := tb_d tk_L_law_10 15 (643, .iload_n 3, 1) rfl
theorem dL_law_644 : decode cL_law 644 = .ok (.iconst 1, 1) := tb_d tk_L_law_10 16 (644, .iconst 1, 1) rfl
theorem dL_law_645 : decode cL_law 645 = .ok (.iadd, 1) := tb_d tk_L_law_10 17 (645, .iadd, 1) rfl
theorem dL_law_646 : decode cL_law 646 = .ok (.iaload, 1) := tb_d tk_L_law_10 18 (646, .iaload, 1) rfl
theorem dL_law_647 : decode cL_law 647 = .ok (.aload_n 0, 1) := tb_d tk_L_law_10 19 (647, .aload_n 0, 1) rfl
theorem dL_law_648 : decode cL_law 648 = .ok (.iload_n 3, 1) := tb_d tk_L_law_10 20 (648, .iload_n 3, 1) rfl
theorem dL_law_649 : decode cL_law 649 = .ok (.iconst 2, 1) := tb_d tk_L_law_10 21 (649, .iconst 2, 1) rfl
theorem dL_law_650 : decode cL_law 650 = .ok (.iadd, 1) := tb_d tk_L_law_10 22 (650, .iadd, 1) rfl
theorem dL_law_651 : decode cL_law 651 = .ok (.iaload, 1) := tb_d tk_L_law_10 23 (651, .iaload, 1) rfl
theorem dL_law_652 : decode cL_law 652 = .ok (.invokevirtual 77, 3) := tb_d tk_L_law_10 24 (652, .invokevirtual 77, 3) rfl
theorem dL_law_655 : decode cL_law 655 = .ok (.pop, 1) := tb_d tk_L_law_10 25 (655, .pop, 1) rfl
theorem dL_law_656 : decode cL_law 656 = .ok (.goto 765, 3) := tb_d tk_L_law_10 26 (656, .goto 765, 3) rfl
theorem dL_law_659 : decode cL_law 659 = .ok (.aload_n 1, 1) := tb_d tk_L_law_10 27 (659, .aload_n 1, 1) rfl
theorem dL_law_660 : decode cL_law 660 = .ok (.aload_n 0, 1) := tb_d tk_L_law_10 28 (660, .aload_n 0, 1) rfl
theorem dL_law_661 : decode cL_law 661 = .ok (.iload_n 3, 1) := tb_d tk_L_law_10 29 (661, .iload_n 3, 1) rfl
theorem dL_law_662 : decode cL_law 662 = .ok (.iconst 1, 1) := tb_d tk_L_law_10 30 (662, .iconst 1, 1) rfl
theorem dL_law_663 : decode cL_law 663 = .ok (.iadd, 1) := tb_d tk_L_law_10 31 (663, .iadd, 1) rfl
theorem dL_law_664 : decode cL_law 664 = .ok (.iaload, 1) := tb_d tk_L_law_10 32 (664, .iaload, 1) rfl
theorem dL_law_665 : decode cL_law 665 = .ok (.aload_n 0, 1) := tb_d tk_L_law_10 33 (665, .aload_n 0, 1) rfl
theorem dL_law_666 : decode cL_law 666 = .ok (.iload_n 3, 1) := tb_d tk_L_law_10 34 (666, .iload_n 3, 1) rfl
theorem dL_law_667 : decode cL_law 667 = .ok (.iconst 2, 1) := tb_d tk_L_law_10 35 (667, .iconst 2, 1) rfl
theorem dL_law_668 : decode cL_law 668 = .ok (.iadd, 1) := tb_d tk_L_law_10 36 (668, .iadd, 1) rfl
theorem dL_law_669 : decode cL_law 669 = .ok (.iaload, 1) := tb_d tk_L_law_10 37 (669, .iaload, 1) rfl
theorem dL_law_670 : decode cL_law 670 = .ok (.invokevirtual 78, 3) := tb_d tk_L_law_10 38 (670, .invokevirtual 78, 3) rfl
theorem dL_law_673 : decode cL_law 673 = .ok (.pop, 1) := tb_d tk_L_law_10 39 (673, .pop, 1) rfl
def tb_L_law_11 : List (Nat × Instr × Nat) := [(674, .aload_n 2, 1), (675, .aload_n 0, 1), (676, .iload_n 3, 1), (677, .iconst 1, 1), (678, .iadd, 1), (679, .iaload, 1), (680, .aload_n 0, 1), (681, .iload_n 3, 1), (682, .iconst 2, 1), (683, .iadd, 1), (684, .iaload, 1), (685, .invokevirtual 81, 3), (688, .pop, 1), (689, .goto 732, 3), (692, .aload_n 1, 1), (693, .aload_n 0, 1), (694, .iload_n 3, 1), (695, .iconst 1, 1), (696, .iadd, 1), (697, .iaload, 1), (698, .invokevirtual 82, 3), (701, .pop, 1), (702, .aload_n 2, 1), (703, .aload_n 0, 1), (704, .iload_n 3, 1), (705, .iconst 1, 1), (706, .iadd, 1), (707, .iaload, 1), (708, .invokevirtual 85, 3), (711, .pop, 1), (712, .goto 709, 3), (715, .aload_n 1, 1), (716, .aload_n 0, 1), (717, .iload_n 3, 1), (718, .iconst 1, 1), (719, .iadd, 1), (720, .iaload, 1), (721, .aload_n 0, 1), (722, .iload_n 3, 1), (723, .iconst 2, 1)]
set_option maxRecDepth 100000 in
theorem tk_L_law_11 : (tb_L_law_11.all fun q => decide (decode cL_law q.1 = .ok q.2)) = true := by decide +kernel
theorem dL_law_674 : decode cL_law 674 = .ok (.aload_n 2, 1) := tb_d tk_L_law_11 0 (674, .aload_n 2, 1) rfl
theorem dL_law_675 : decode cL_law 675 = .ok (.aload_n 0, 1) := tb_d tk_L_law_11 1 (675, .aload_n 0, 1) rfl
theorem dL_law_676 : decode cL_law 676 = .ok (.iload_n 3, 1) := tb_d tk_L_law_11 2 (676, .iload_n 3, 1) rfl
theorem dL_law_677 : decode cL_law 677 = .ok (.iconst 1, 1) := tb_d tk_L_law_11 3 (677, .iconst 1, 1) rfl
theorem dL_law_678 : decode cL_law 678 = .ok (.iadd, 1) := tb_d tk_L_law_11 4 (678, .iadd, 1) rfl
theorem dL_law_679 : decode cL_law 679 = .ok (.iaload, 1) := tb_d tk_L_law_11 5 (679, .iaload, 1) rfl
theorem dL_law_680 : decode cL_law 680 = .ok (.aload_n 0, 1) := tb_d tk_L_law_11 6 (680, .aload_n 0, 1) rfl
theorem dL_law_681 : decode cL_law 681 = .ok (.iload_n 3, 1) := tb_d tk_L_law_11 7 (681, .iload_n 3, 1) rfl
theorem dL_law_682 : decode cL_law 682 = .ok (.iconst 2, 1) := tb_d tk_L_law_11 8 (682, .iconst 2, 1) rfl
theorem dL_law_683 : decode cL_law 683 = .ok (.iadd, 1) := tb_d tk_L_law_11 9 (683, .iadd, 1) rfl
theorem dL_law_684 : decode cL_law 684 = .ok (.iaload, 1) := tb_d tk_L_law_11 10 (684, .iaload, 1) rfl
theorem dL_law_685 : decode cL_law 685 = .ok (.invokevirtual 81, 3) := tb_d tk_L_law_11 11 (685, .invokevirtual 81, 3) rfl
theorem dL_law_688 : decode cL_law 688 = .ok (.pop, 1) := tb_d tk_L_law_11 12 (688, .pop, 1) rfl
theorem dL_law_689 : decode cL_law 689 = .ok (.goto 732, 3) := tb_d tk_L_law_11 13 (689, .goto 732, 3) rfl
theorem dL_law_692 : decode cL_law 692 = .ok (.aload_n 1, 1) := tb_d tk_L_law_11 14 (692, .aload_n 1, 1) rfl
theorem dL_law_693 : decode cL_law 693 = .ok (.aload_n 0, 1) := tb_d tk_L_law_11 15 (693, .aload_n 0, 1) rfl
theorem dL_law_694 : decode cL_law 694 = .ok (.iload_n 3, 1) := tb_d tk_L_law_11 16 (694, .iload_n 3, 1) rfl
theorem dL_law_695 : decode cL_law 695 = .ok (.iconst 1, 1) := tb_d tk_L_law_11 17 (695, .iconst 1, 1) rfl
theorem dL_law_696 : decode cL_law 696 = .ok (.iadd, 1) := tb_d tk_L_law_11 18 (696, .iadd, 1) rfl
theorem dL_law_697 : decode cL_law 697 = .ok (.iaload, 1) := tb_d tk_L_law_11 19 (697, .iaload, 1) rfl
theorem dL_law_698 : decode cL_law 698 = .ok (.invokevirtual 82, 3) := tb_d tk_L_law_11 20 (698, .invokevirtual 82, 3) rfl
theorem dL_law_701 : decode cL_law 701 = .ok (.pop, 1) := tb_d tk_L_law_11 21 (701, .pop, 1) rfl
theorem dL_law_702 : decode cL_law 702 = .ok (.aload_n 2, 1) := tb_d tk_L_law_11 22 (702, .aload_n 2, 1) rfl
theorem dL_law_703 : decode cL_law 703 = .ok (.aload_n 0, 1) := tb_d tk_L_law_11 23 (703, .aload_n 0, 1) rfl
theorem dL_law_704 : decode cL_law 704 = .ok (.iload_n 3, 1) := tb_d tk_L_law_11 24 (704, .iload_n 3, 1) rfl
theorem dL_law_705 : decode cL_law 705 = .ok (.iconst 1, 1) := tb_d tk_L_law_11 25 (705, .iconst 1, 1) rfl
theorem dL_law_706 : decode cL_law 706 = .ok (.iadd, 1) := tb_d tk_L_law_11 26 (706, .iadd, 1) rfl
theorem dL_law_707 : decode cL_law 707 = .ok (.iaload, 1) := tb_d tk_L_law_11 27 (707, .iaload, 1) rfl
theorem dL_law_708 : decode cL_law 708 = .ok (.invokevirtual 85, 3) := tb_d tk_L_law_11 28 (708, .invokevirtual 85, 3) rfl
theorem dL_law_711 : decode cL_law 711 = .ok (.pop, 1) := tb_d tk_L_law_11 29 (711, .pop, 1) rfl
theorem dL_law_712 : decode cL_law 712 = .ok (.goto 709, 3) := tb_d tk_L_law_11 30 (712, .goto 709, 3) rfl
theorem dL_law_715 : decode cL_law 715 = .ok (.aload_n 1, 1) := tb_d tk_L_law_11 31 (715, .aload_n 1, 1) rfl
theorem dL_law_716 : decode cL_law 716 = .ok (.aload_n 0, 1) := tb_d tk_L_law_11 32 (716, .aload_n 0, 1) rfl
theorem dL_law_717 : decode cL_law 717 = .ok (.iload_n 3, 1) := tb_d tk_L_law_11 33 (717, .iload_n 3, 1) rfl
theorem dL_law_718 : decode cL_law 718 = .ok (.iconst 1, 1) := tb_d tk_L_law_11 34 (718, .iconst 1, 1) rfl
theorem dL_law_719 : decode cL_law 719 = .ok (.iadd, 1) := tb_d tk_L_law_11 35 (719, .iadd, 1) rfl
theorem dL_law_720 : decode cL_law 720 = .ok (.iaload, 1) := tb_d tk_L_law_11 36 (720, .iaload, 1) rfl
theorem dL_law_721 : decode cL_law 721 = .ok (.aload_n 0, 1) := tb_d tk_L_law_11 37 (721, .aload_n 0, 1) rfl
theorem dL_law_722 : decode cL_law 722 = .ok (.iload_n 3, 1) := tb_d tk_L_law_11 38 (722, .iload_n 3, 1) rfl
theorem dL_law_723 : decode cL_law 723 = .ok (.iconst 2, 1) := tb_d tk_L_law_11 39 (723, .iconst 2, 1) rfl
def tb_L_law_12 : List (Nat × Instr × Nat) := [(724, .iadd, 1), (725, .iaload, 1), (726, .aload_n 0, 1), (727, .iload_n 3, 1), (728, .iconst 3, 1), (729, .iadd, 1), (730, .iaload, 1), (731, .invokevirtual 86, 3), (734, .pop, 1), (735, .aload_n 2, 1), (736, .aload_n 0, 1), (737, .iload_n 3, 1), (738, .iconst 1, 1), (739, .iadd, 1), (740, .iaload, 1), (741, .aload_n 0, 1), (742, .iload_n 3, 1), (743, .iconst 2, 1), (744, .iadd, 1), (745, .iaload, 1), (746, .aload_n 0, 1), (747, .iload_n 3, 1), (748, .iconst 3, 1), (749, .iadd, 1), (750, .iaload, 1), (751, .invokevirtual 89, 3), (754, .pop, 1), (755, .goto 666, 3), (758, .aload_n 1, 1), (759, .aload_n 0, 1), (760, .iload_n 3, 1), (761, .iconst 1, 1), (762, .iadd, 1), (763, .iaload, 1), (764, .aload_n 0, 1), (765, .iload_n 3, 1), (766, .iconst 2, 1), (767, .iadd, 1), (768, .iaload, 1), (769, .invokevirtual 90, 3)]
set_option maxRecDepth 100000 in
theorem tk_L_law_12 : (tb_L_law_12.all fun q => decide (decode cL_law q.1 = .ok q.2)) = true := by decide +kernel
theorem dL_law_724 : decode cL_law 724 = .ok (.iadd, 1) := tb_d tk_L_law_12 0 (724, .iadd, 1) rfl
theorem dL_law_725 : decode cL_law 725 = .ok (.iaload, 1) := tb_d tk_L_law_12 1 (725, .iaload, 1) rfl
theorem dL_law_726 : decode cL_law 726 = .ok (.aload_n 0, 1) := tb_d tk_L_law_12 2 (726, .aload_n 0, 1) rfl
theorem dL_law_727 : decode cL_law 727 = .ok (.iload_n 3, 1) := tb_d tk_L_law_12 3 (727, .iload_n 3, 1) rfl
theorem dL_law_728 : decode cL_law 728 = .ok (.iconst 3, 1) := tb_d tk_L_law_12 4 (728, .iconst 3, 1) rfl
theorem dL_law_729 : decode cL_law 729 = .ok (.iadd, 1) := tb_d tk_L_law_12 5 (729, .iadd, 1) rfl
theorem dL_law_730 : decode cL_law 730 = .ok (.iaload, 1) := tb_d tk_L_law_12 6 (730, .iaload, 1) rfl
theorem dL_law_731 : decode cL_law 731 = .ok (.invokevirtual 86, 3) := tb_d tk_L_law_12 7 (731, .invokevirtual 86, 3) rfl
theorem dL_law_734 : decode cL_law 734 = .ok (.pop, 1) := tb_d tk_L_law_12 8 (734, .pop, 1) rfl
theorem dL_law_735 : decode cL_law 735 = .ok (.aload_n 2, 1) := tb_d tk_L_law_12 9 (735, .aload_n 2, 1) rfl
theorem dL_law_736 : decode cL_law 736 = .ok (.aload_n 0, 1) := tb_d tk_L_law_12 10 (736, .aload_n 0, 1) rfl
theorem dL_law_737 : decode cL_law 737 = .ok (.iload_n 3, 1) := tb_d tk_L_law_12 11 (737, .iload_n 3, 1) rfl
theorem dL_law_738 : decode cL_law 738 = .ok (.iconst 1, 1) := tb_d tk_L_law_12 12 (738, .iconst 1, 1) rfl
theorem dL_law_739 : decode cL_law 739 = .ok (.iadd, 1) := tb_d tk_L_law_12 13 (739, .iadd, 1) rfl
theorem dL_law_740 : decode cL_law 740 = .ok (.iaload, 1) := tb_d tk_L_law_12 14 (740, .iaload, 1) rfl
theorem dL_law_741 : decode cL_law 741 = .ok (.aload_n 0, 1) := tb_d tk_L_law_12 15 (741, .aload_n 0, 1) rfl
theorem dL_law_742 : decode cL_law 742 = .ok (.iload_n 3, 1) := tb_d tk_L_law_12 16 (742, .iload_n 3, 1) rfl
theorem dL_law_743 : decode cL_law 743 = .ok (.iconst 2, 1) := tb_d tk_L_law_12 17 (743, .iconst 2, 1) rfl
theorem dL_law_744 : decode cL_law 744 = .ok (.iadd, 1) := tb_d tk_L_law_12 18 (744, .iadd, 1) rfl
theorem dL_law_745 : decode cL_law 745 = .ok (.iaload, 1) := tb_d tk_L_law_12 19 (745, .iaload, 1) rfl
theorem dL_law_746 : decode cL_law 746 = .ok (.aload_n 0, 1) := tb_d tk_L_law_12 20 (746, .aload_n 0, 1) rfl
theorem dL_law_747 : decode cL_law 747 = .ok (.iload_n 3, 1) := tb_d tk_L_law_12 21 (747, .iload_n 3, 1) rfl
theorem dL_law_748 : decode cL_law 748 = .ok (.iconst 3, 1) := tb_d tk_L_law_12 22 (748, .iconst 3, 1) rfl
theorem dL_law_749 : decode cL_law 749 = .ok (.iadd, 1) := tb_d tk_L_law_12 23 (749, .iadd, 1) rfl
theorem dL_law_750 : decode cL_law 750 = .ok (.iaload, 1) := tb_d tk_L_law_12 24 (750, .iaload, 1) rfl
theorem dL_law_751 : decode cL_law 751 = .ok (.invokevirtual 89, 3) := tb_d tk_L_law_12 25 (751, .invokevirtual 89, 3) rfl
theorem dL_law_754 : decode cL_law 754 = .ok (.pop, 1) := tb_d tk_L_law_12 26 (754, .pop, 1) rfl
theorem dL_law_755 : decode cL_law 755 = .ok (.goto 666, 3) := tb_d tk_L_law_12 27 (755, .goto 666, 3) rfl
theorem dL_law_758 : decode cL_law 758 = .ok (.aload_n 1, 1) := tb_d tk_L_law_12 28 (758, .aload_n 1, 1) rfl
theorem dL_law_759 : decode cL_law 759 = .ok (.aload_n 0, 1) := tb_d tk_L_law_12 29 (759, .aload_n 0, 1) rfl
theorem dL_law_760 : decode cL_law 760 = .ok (.iload_n 3, 1) := tb_d tk_L_law_12 30 (760, .iload_n 3, 1) rfl
theorem dL_law_761 : decode cL_law 761 = .ok (.iconst 1, 1) := tb_d tk_L_law_12 31 (761, .iconst 1, 1) rfl
theorem dL_law_762 : decode cL_law 762 = .ok (.iadd, 1) := tb_d tk_L_law_12 32 (762, .iadd, 1) rfl
theorem dL_law_763 : decode cL_law 763 = .ok (.iaload, 1) := tb_d tk_L_law_12 33 (763, .iaload, 1) rfl
theorem dL_law_764 : decode cL_law 764 = .ok (.aload_n 0, 1) := tb_d tk_L_law_12 34 (764, .aload_n 0, 1) rfl
theorem dL_law_765 : decode cL_law 765 = .ok (.iload_n 3, 1) := tb_d tk_L_law_12 35 (765, .iload_n 3, 1) rfl
theorem dL_law_766 : decode cL_law 766 = .ok (.iconst 2, 1) := tb_d tk_L_law_12 36 (766, .iconst 2, 1) rfl
theorem dL_law_767 : decode cL_law 767 = .ok (.iadd, 1) := tb_d tk_L_law_12 37 (767, .iadd, 1) rfl
theorem dL_law_768 : decode cL_law 768 = .ok (.iaload, 1) := tb_d tk_L_law_12 38 (768, .iaload, 1) rfl
theorem dL_law_769 : decode cL_law 769 = .ok (.invokevirtual 90, 3) := tb_d tk_L_law_12 39 (769, .invokevirtual 90, 3) rfl
def tb_L_law_13 : List (Nat × Instr × Nat) := [(772, .pop, 1), (773, .aload_n 2, 1), (774, .aload_n 0, 1), (775, .iload_n 3, 1), (776, .iconst 1, 1), (777, .iadd, 1), (778, .iaload, 1), (779, .aload_n 0, 1), (780, .iload_n 3, 1), (781, .iconst 2, 1), (782, .iadd, 1), (783, .iaload, 1), (784, .invokevirtual 93, 3), (787, .pop, 1), (788, .goto 633, 3), (791, .aload_n 1, 1), (792, .aload_n 0, 1), (793, .iload_n 3, 1), (794, .iconst 1, 1), (795, .iadd, 1), (796, .iaload, 1), (797, .aload_n 0, 1), (798, .iload_n 3, 1), (799, .iconst 2, 1), (800, .iadd, 1), (801, .iaload, 1), (802, .invokevirtual 94, 3), (805, .pop, 1), (806, .aload_n 2, 1), (807, .aload_n 0, 1), (808, .iload_n 3, 1), (809, .iconst 1, 1), (810, .iadd, 1), (811, .iaload, 1), (812, .aload_n 0, 1), (813, .iload_n 3, 1), (814, .iconst 2, 1), (815, .iadd, 1), (816, .iaload, 1), (817, .invokevirtual 97, 3)]
set_option maxRecDepth 100000 in
theorem tk_L_law_13 : (tb_L_law_13.all fun q => decide (decode cL_law q.1 = .ok q.2)) = true := by decide +kernel
theorem dL_law_772 : decode cL_law 772 = .ok (.pop, 1) := tb_d tk_L_law_13 0 (772, .pop, 1) rfl
theorem dL_law_773 : decode cL_law 773 = .ok (.aload_n 2, 1) := tb_d tk_L_law_13 1 (773, .aload_n 2, 1) rfl
theorem dL_law_774 : decode cL_law 774 = .ok (.aload_n 0, 1) := tb_d tk_L_law_13 2 (774, .aload_n 0, 1) rfl
theorem dL_law_775 : decode cL_law 775 = .ok (.iload_n 3, 1) := tb_d tk_L_law_13 3 (775, .iload_n 3, 1) rfl
theorem dL_law_776 : decode cL_law 776 = .ok (.iconst 1, 1) := tb_d tk_L_law_13 4 (776, .iconst 1, 1) rfl
theorem dL_law_777 : decode cL_law 777 = .ok (.iadd, 1) := tb_d tk_L_law_13 5 (777, .iadd, 1) rfl
theorem dL_law_778 : decode cL_law 778 = .ok (.iaload, 1) := tb_d tk_L_law_13 6 (778, .iaload, 1) rfl
theorem dL_law_779 : decode cL_law 779 = .ok (.aload_n 0, 1) := tb_d tk_L_law_13 7 (779, .aload_n 0, 1) rfl
theorem dL_law_780 : decode cL_law 780 = .ok (.iload_n 3, 1) := tb_d tk_L_law_13 8 (780, .iload_n 3, 1) rfl
theorem dL_law_781 : decode cL_law 781 = .ok (.iconst 2, 1) := tb_d tk_L_law_13 9 (781, .iconst 2, 1) rfl
theorem dL_law_782 : decode cL_law 782 = .ok (.iadd, 1) := tb_d tk_L_law_13 10 (782, .iadd, 1) rfl
theorem dL_law_783 : decode cL_law 783 = .ok (.iaload, 1) := tb_d tk_L_law_13 11 (783, .iaload, 1) rfl
theorem dL_law_784 : decode cL_law 784 = .ok (.invokevirtual 93, 3) := tb_d tk_L_law_13 12 (784, .invokevirtual 93, 3) rfl
theorem dL_law_787 : decode cL_law 787 = .ok (.pop, 1) := tb_d tk_L_law_13 13 (787, .pop, 1) rfl
theorem dL_law_788 : decode cL_law 788 = .ok (.goto 633, 3) := tb_d tk_L_law_13 14 (788, .goto 633, 3) rfl
theorem dL_law_791 : decode cL_law 791 = .ok (.aload_n 1, 1) := tb_d tk_L_law_13 15 (791, .aload_n 1, 1) rfl
theorem dL_law_792 : decode cL_law 792 = .ok (.aload_n 0, 1) := tb_d tk_L_law_13 16 (792, .aload_n 0, 1) rfl
theorem dL_law_793 : decode cL_law 793 = .ok (.iload_n 3, 1) := tb_d tk_L_law_13 17 (793, .iload_n 3, 1) rfl
theorem dL_law_794 : decode cL_law 794 = .ok (.iconst 1, 1) := tb_d tk_L_law_13 18 (794, .iconst 1, 1) rfl
theorem dL_law_795 : decode cL_law 795 = .ok (.iadd, 1) := tb_d tk_L_law_13 19 (795, .iadd, 1) rfl
theorem dL_law_796 : decode cL_law 796 = .ok (.iaload, 1) := tb_d tk_L_law_13 20 (796, .iaload, 1) rfl
theorem dL_law_797 : decode cL_law 797 = .ok (.aload_n 0, 1) := tb_d tk_L_law_13 21 (797, .aload_n 0, 1) rfl
theorem dL_law_798 : decode cL_law 798 = .ok (.iload_n 3, 1) := tb_d tk_L_law_13 22 (798, .iload_n 3, 1) rfl
theorem dL_law_799 : decode cL_law 799 = .ok (.iconst 2, 1) := tb_d tk_L_law_13 23 (799, .iconst 2, 1) rfl
theorem dL_law_800 : decode cL_law 800 = .ok (.iadd, 1) := tb_d tk_L_law_13 24 (800, .iadd, 1) rfl
theorem dL_law_801 : decode cL_law 801 = .ok (.iaload, 1) := tb_d tk_L_law_13 25 (801, .iaload, 1) rfl
theorem dL_law_802 : decode cL_law 802 = .ok (.invokevirtual 94, 3) := tb_d tk_L_law_13 26 (802, .invokevirtual 94, 3) rfl
theorem dL_law_805 : decode cL_law 805 = .ok (.pop, 1) := tb_d tk_L_law_13 27 (805, .pop, 1) rfl
theorem dL_law_806 : decode cL_law 806 = .ok (.aload_n 2, 1) := tb_d tk_L_law_13 28 (806, .aload_n 2, 1) rfl
theorem dL_law_807 : decode cL_law 807 = .ok (.aload_n 0, 1) := tb_d tk_L_law_13 29 (807, .aload_n 0, 1) rfl
theorem dL_law_808 : decode cL_law 808 = .ok (.iload_n 3, 1) := tb_d tk_L_law_13 30 (808, .iload_n 3, 1) rfl
theorem dL_law_809 : decode cL_law 809 = .ok (.iconst 1, 1) := tb_d tk_L_law_13 31 (809, .iconst 1, 1) rfl
theorem dL_law_810 : decode cL_law 810 = .ok (.iadd, 1) := tb_d tk_L_law_13 32 (810, .iadd, 1) rfl
theorem dL_law_811 : decode cL_law 811 = .ok (.iaload, 1) := tb_d tk_L_law_13 33 (811, .iaload, 1) rfl
theorem dL_law_812 : decode cL_law 812 = .ok (.aload_n 0, 1) := tb_d tk_L_law_13 34 (812, .aload_n 0, 1) rfl
theorem dL_law_813 : decode cL_law 813 = .ok (.iload_n 3, 1) := tb_d tk_L_law_13 35 (813, .iload_n 3, 1) rfl
theorem dL_law_814 : decode cL_law 814 = .ok (.iconst 2, 1) := tb_d tk_L_law_13 36 (814, .iconst 2, 1) rfl
theorem dL_law_815 : decode cL_law 815 = .ok (.iadd, 1) := tb_d tk_L_law_13 37 (815, .iadd, 1) rfl
theorem dL_law_816 : decode cL_law 816 = .ok (.iaload, 1) := tb_d tk_L_law_13 38 (816, .iaload, 1) rfl
theorem dL_law_817 : decode cL_law 817 = .ok (.invokevirtual 97, 3) := tb_d tk_L_law_13 39 (817, .invokevirtual 97, 3) rfl
def tb_L_law_14 : List (Nat × Instr × Nat) := [(820, .pop, 1), (821, .goto 600, 3), (824, .aload_n 1, 1), (825, .aload_n 0, 1), (826, .iload_n 3, 1), (827, .iconst 1, 1), (828, .iadd, 1), (829, .iaload, 1), (830, .invokevirtual 98, 3), (833, .pop, 1), (834, .aload_n 2, 1), (835, .aload_n 0, 1), (836, .iload_n 3, 1), (837, .iconst 1, 1), (838, .iadd, 1), (839, .iaload, 1), (840, .invokevirtual 101, 3), (843, .pop, 1), (844, .goto 577, 3), (847, .aload_n 1, 1), (848, .invokevirtual 102, 3), (851, .pop, 1), (852, .aload_n 2, 1), (853, .invokevirtual 105, 3), (856, .pop, 1), (857, .goto 564, 3), (860, .aload_n 1, 1), (861, .aload_n 0, 1), (862, .iload_n 3, 1), (863, .iconst 1, 1), (864, .iadd, 1), (865, .iaload, 1), (866, .invokevirtual 106, 3), (869, .pop, 1), (870, .aload_n 2, 1), (871, .aload_n 0, 1), (872, .iload_n 3, 1), (873, .iconst 1, 1), (874, .iadd, 1), (875, .iaload, 1)]
set_option maxRecDepth 100000 in
theorem tk_L_law_14 : (tb_L_law_14.all fun q => decide (decode cL_law q.1 = .ok q.2)) = true := by decide +kernel
theorem dL_law_820 : decode cL_law 820 = .ok (.pop, 1) := tb_d tk_L_law_14 0 (820, .pop, 1) rfl
theorem dL_law_821 : decode cL_law 821 = .ok (.goto 600, 3) := tb_d tk_L_law_14 1 (821, .goto 600, 3) rfl
theorem dL_law_824 : decode cL_law 824 = .ok (.aload_n 1, 1) := tb_d tk_L_law_14 2 (824, .aload_n 1, 1) rfl
theorem dL_law_825 : decode cL_law 825 = .ok (.aload_n 0, 1) := tb_d tk_L_law_14 3 (825, .aload_n 0, 1) rfl
theorem dL_law_826 : decode cL_law 826 = .ok (.iload_n 3, 1) := tb_d tk_L_law_14 4 (826, .iload_n 3, 1) rfl
theorem dL_law_827 : decode cL_law 827 = .ok (.iconst 1, 1) := tb_d tk_L_law_14 5 (827, .iconst 1, 1) rfl
theorem dL_law_828 : decode cL_law 828 = .ok (.iadd, 1) := tb_d tk_L_law_14 6 (828, .iadd, 1) rfl
theorem dL_law_829 : decode cL_law 829 = .ok (.iaload, 1) := tb_d tk_L_law_14 7 (829, .iaload, 1) rfl
theorem dL_law_830 : decode cL_law 830 = .ok (.invokevirtual 98, 3) := tb_d tk_L_law_14 8 (830, .invokevirtual 98, 3) rfl
theorem dL_law_833 : decode cL_law 833 = .ok (.pop, 1) := tb_d tk_L_law_14 9 (833, .pop, 1) rfl
theorem dL_law_834 : decode cL_law 834 = .ok (.aload_n 2, 1) := tb_d tk_L_law_14 10 (834, .aload_n 2, 1) rfl
theorem dL_law_835 : decode cL_law 835 = .ok (.aload_n 0, 1) := tb_d tk_L_law_14 11 (835, .aload_n 0, 1) rfl
theorem dL_law_836 : decode cL_law 836 = .ok (.iload_n 3, 1) := tb_d tk_L_law_14 12 (836, .iload_n 3, 1) rfl
theorem dL_law_837 : decode cL_law 837 = .ok (.iconst 1, 1) := tb_d tk_L_law_14 13 (837, .iconst 1, 1) rfl
theorem dL_law_838 : decode cL_law 838 = .ok (.iadd, 1) := tb_d tk_L_law_14 14 (838, .iadd, 1) rfl
theorem dL_law_839 : decode cL_law 839 = .ok (.iaload, 1) := tb_d tk_L_law_14 15 (839, .iaload, 1) rfl
theorem dL_law_840 : decode cL_law 840 = .ok (.invokevirtual 101, 3) := tb_d tk_L_law_14 16 (840, .invokevirtual 101, 3) rfl
theorem dL_law_843 : decode cL_law 843 = .ok (.pop, 1) := tb_d tk_L_law_14 17 (843, .pop, 1) rfl
theorem dL_law_844 : decode cL_law 844 = .ok (.goto 577, 3) := tb_d tk_L_law_14 18 (844, .goto 577, 3) rfl
theorem dL_law_847 : decode cL_law 847 = .ok (.aload_n 1, 1) := tb_d tk_L_law_14 19 (847, .aload_n 1, 1) rfl
theorem dL_law_848 : decode cL_law 848 = .ok (.invokevirtual 102, 3) := tb_d tk_L_law_14 20 (848, .invokevirtual 102, 3) rfl
theorem dL_law_851 : decode cL_law 851 = .ok (.pop, 1) := tb_d tk_L_law_14 21 (851, .pop, 1) rfl
theorem dL_law_852 : decode cL_law 852 = .ok (.aload_n 2, 1) := tb_d tk_L_law_14 22 (852, .aload_n 2, 1) rfl
theorem dL_law_853 : decode cL_law 853 = .ok (.invokevirtual 105, 3) := tb_d tk_L_law_14 23 (853, .invokevirtual 105, 3) rfl
theorem dL_law_856 : decode cL_law 856 = .ok (.pop, 1) := tb_d tk_L_law_14 24 (856, .pop, 1) rfl
theorem dL_law_857 : decode cL_law 857 = .ok (.goto 564, 3) := tb_d tk_L_law_14 25 (857, .goto 564, 3) rfl
theorem dL_law_860 : decode cL_law 860 = .ok (.aload_n 1, 1) := tb_d tk_L_law_14 26 (860, .aload_n 1, 1) rfl
theorem dL_law_861 : decode cL_law 861 = .ok (.aload_n 0, 1) := tb_d tk_L_law_14 27 (861, .aload_n 0, 1) rfl
theorem dL_law_862 : decode cL_law 862 = .ok (.iload_n 3, 1) := tb_d tk_L_law_14 28 (862, .iload_n 3, 1) rfl
theorem dL_law_863 : decode cL_law 863 = .ok (.iconst 1, 1) := tb_d tk_L_law_14 29 (863, .iconst 1, 1) rfl
theorem dL_law_864 : decode cL_law 864 = .ok (.iadd, 1) := tb_d tk_L_law_14 30 (864, .iadd, 1) rfl
theorem dL_law_865 : decode cL_law 865 = .ok (.iaload, 1) := tb_d tk_L_law_14 31 (865, .iaload, 1) rfl
theorem dL_law_866 : decode cL_law 866 = .ok (.invokevirtual 106, 3) := tb_d tk_L_law_14 32 (866, .invokevirtual 106, 3) rfl
theorem dL_law_869 : decode cL_law 869 = .ok (.pop, 1) := tb_d tk_L_law_14 33 (869, .pop, 1) rfl
theorem dL_law_870 : decode cL_law 870 = .ok (.aload_n 2, 1) := tb_d tk_L_law_14 34 (870, .aload_n 2, 1) rfl
theorem dL_law_871 : decode cL_law 871 = .ok (.aload_n 0, 1) := tb_d tk_L_law_14 35 (871, .aload_n 0, 1) rfl
theorem dL_law_872 : decode cL_law 872 = .ok (.iload_n 3, 1) := tb_d tk_L_law_14 36 (872, .iload_n 3, 1) rfl
theorem dL_law_873 : decode cL_law 873 = .ok (.iconst 1, 1) := tb_d tk_L_law_14 37 (873, .iconst 1, 1) rfl
theorem dL_law_874 : decode cL_law 874 = .ok (.iadd, 1) := tb_d tk_L_law_14 38 (874, .iadd, 1) rfl
theorem dL_law_875 : decode cL_law 875 = .ok (.iaload, 1) := tb_d tk_L_law_14 39 (875, .iaload, 1) rfl
def tb_L_law_15 : List (Nat × Instr × Nat) := [(876, .invokevirtual 109, 3), (879, .pop, 1), (880, .goto 541, 3), (883, .aload_n 1, 1), (884, .invokevirtual 110, 3), (887, .pop, 1), (888, .aload_n 2, 1), (889, .invokevirtual 113, 3), (892, .pop, 1), (893, .goto 528, 3), (896, .aload_n 1, 1), (897, .aload_n 0, 1), (898, .iload_n 3, 1), (899, .iconst 1, 1), (900, .iadd, 1), (901, .iaload, 1), (902, .aload_n 0, 1), (903, .iload_n 3, 1), (904, .iconst 2, 1), (905, .iadd, 1), (906, .iaload, 1), (907, .aload_n 0, 1), (908, .iload_n 3, 1), (909, .iconst 3, 1), (910, .iadd, 1), (911, .iaload, 1), (912, .aload_n 0, 1), (913, .iload_n 3, 1), (914, .iconst 4, 1), (915, .iadd, 1), (916, .iaload, 1), (917, .invokevirtual 114, 3), (920, .pop, 1), (921, .aload_n 2, 1), (922, .aload_n 0, 1), (923, .iload_n 3, 1), (924, .iconst 1, 1), (925, .iadd, 1), (926, .iaload, 1), (927, .aload_n 0, 1)]
set_option maxRecDepth 100000 in
theorem tk_L_law_15 : (tb_L_law_15.all fun q => decide (decode cL_law q.1 = .ok q.2)) = true := by decide +kernel
theorem dL_law_876 : decode cL_law 876 = .ok (.invokevirtual 109, 3) := tb_d tk_L_law_15 0 (876, .invokevirtual 109, 3) rfl
theorem dL_law_879 : decode cL_law 879 = .ok (.pop, 1) := tb_d tk_L_law_15 1 (879, .pop, 1) rfl
theorem dL_law_880 : decode cL_law 880 = .ok (.goto 541, 3) := tb_d tk_L_law_15 2 (880, .goto 541, 3) rfl
theorem dL_law_883 : decode cL_law 883 = .ok (.aload_n 1, 1) := tb_d tk_L_law_15 3 (883, .aload_n 1, 1) rfl
theorem dL_law_884 : decode cL_law 884 = .ok (.invokevirtual 110, 3) := tb_d tk_L_law_15 4 (884, .invokevirtual 110, 3) rfl
theorem dL_law_887 : decode cL_law 887 = .ok (.pop, 1) := tb_d tk_L_law_15 5 (887, .pop, 1) rfl
theorem dL_law_888 : decode cL_law 888 = .ok (.aload_n 2, 1) := tb_d tk_L_law_15 6 (888, .aload_n 2, 1) rfl
theorem dL_law_889 : decode cL_law 889 = .ok (.invokevirtual 113, 3) := tb_d tk_L_law_15 7 (889, .invokevirtual 113, 3) rfl
theorem dL_law_892 : decode cL_law 892 = .ok (.pop, 1) := tb_d tk_L_law_15 8 (892, .pop, 1) rfl
theorem dL_law_893 : decode cL_law 893 = .ok (.goto 528, 3) := tb_d tk_L_law_15 9 (893, .goto 528, 3) rfl
theorem dL_law_896 : decode cL_law 896 = .ok (.aload_n 1, 1) := tb_d tk_L_law_15 10 (896, .aload_n 1, 1) rfl
theorem dL_law_897 : decode cL_law 897 = .ok (.aload_n 0, 1) := tb_d tk_L_law_15 11 (897, .aload_n 0, 1) rfl
theorem dL_law_898 : decode cL_law 898 = .ok (.iload_n 3, 1) := tb_d tk_L_law_15 12 (898, .iload_n 3, 1) rfl
theorem dL_law_899 : decode cL_law 899 = .ok (.iconst 1, 1) := tb_d tk_L_law_15 13 (899, .iconst 1, 1) rfl
theorem dL_law_900 : decode cL_law 900 = .ok (.iadd, 1) := tb_d tk_L_law_15 14 (900, .iadd, 1) rfl
theorem dL_law_901 : decode cL_law 901 = .ok (.iaload, 1) := tb_d tk_L_law_15 15 (901, .iaload, 1) rfl
theorem dL_law_902 : decode cL_law 902 = .ok (.aload_n 0, 1) := tb_d tk_L_law_15 16 (902, .aload_n 0, 1) rfl
theorem dL_law_903 : decode cL_law 903 = .ok (.iload_n 3, 1) := tb_d tk_L_law_15 17 (903, .iload_n 3, 1) rfl
theorem dL_law_904 : decode cL_law 904 = .ok (.iconst 2, 1) := tb_d tk_L_law_15 18 (904, .iconst 2, 1) rfl
theorem dL_law_905 : decode cL_law 905 = .ok (.iadd, 1) := tb_d tk_L_law_15 19 (905, .iadd, 1) rfl
theorem dL_law_906 : decode cL_law 906 = .ok (.iaload, 1) := tb_d tk_L_law_15 20 (906, .iaload, 1) rfl
theorem dL_law_907 : decode cL_law 907 = .ok (.aload_n 0, 1) := tb_d tk_L_law_15 21 (907, .aload_n 0, 1) rfl
theorem dL_law_908 : decode cL_law 908 = .ok (.iload_n 3, 1) := tb_d tk_L_law_15 22 (908, .iload_n 3, 1) rfl
theorem dL_law_909 : decode cL_law 909 = .ok (.iconst 3, 1) := tb_d tk_L_law_15 23 (909, .iconst 3, 1) rfl
theorem dL_law_910 : decode cL_law 910 = .ok (.iadd, 1) := tb_d tk_L_law_15 24 (910, .iadd, 1) rfl
theorem dL_law_911 : decode cL_law 911 = .ok (.iaload, 1) := tb_d tk_L_law_15 25 (911, .iaload, 1) rfl
theorem dL_law_912 : decode cL_law 912 = .ok (.aload_n 0, 1) := tb_d tk_L_law_15 26 (912, .aload_n 0, 1) rfl
theorem dL_law_913 : decode cL_law 913 = .ok (.iload_n 3, 1) := tb_d tk_L_law_15 27 (913, .iload_n 3, 1) rfl
theorem dL_law_914 : decode cL_law 914 = .ok (.iconst 4, 1) := tb_d tk_L_law_15 28 (914, .iconst 4, 1) rfl
theorem dL_law_915 : decode cL_law 915 = .ok (.iadd, 1) := tb_d tk_L_law_15 29 (915, .iadd, 1) rfl
theorem dL_law_916 : decode cL_law 916 = .ok (.iaload, 1) := tb_d tk_L_law_15 30 (916, .iaload, 1) rfl
theorem dL_law_917 : decode cL_law 917 = .ok (.invokevirtual 114, 3) := tb_d tk_L_law_15 31 (917, .invokevirtual 114, 3) rfl
theorem dL_law_920 : decode cL_law 920 = .ok (.pop, 1) := tb_d tk_L_law_15 32 (920, .pop, 1) rfl
theorem dL_law_921 : decode cL_law 921 = .ok (.aload_n 2, 1) := tb_d tk_L_law_15 33 (921, .aload_n 2, 1) rfl
theorem dL_law_922 : decode cL_law 922 = .ok (.aload_n 0, 1) := tb_d tk_L_law_15 34 (922, .aload_n 0, 1) rfl
theorem dL_law_923 : decode cL_law 923 = .ok (.iload_n 3, 1) := tb_d tk_L_law_15 35 (923, .iload_n 3, 1) rfl
theorem dL_law_924 : decode cL_law 924 = .ok (.iconst 1, 1) := tb_d tk_L_law_15 36 (924, .iconst 1, 1) rfl
theorem dL_law_925 : decode cL_law 925 = .ok (.iadd, 1) := tb_d tk_L_law_15 37 (925, .iadd, 1) rfl
theorem dL_law_926 : decode cL_law 926 = .ok (.iaload, 1) := tb_d tk_L_law_15 38 (926, .iaload, 1) rfl
theorem dL_law_927 : decode cL_law 927 = .ok (.aload_n 0, 1) := tb_d tk_L_law_15 39 (927, .aload_n 0, 1) rfl
def tb_L_law_16 : List (Nat × Instr × Nat) := [(928, .iload_n 3, 1), (929, .iconst 2, 1), (930, .iadd, 1), (931, .iaload, 1), (932, .aload_n 0, 1), (933, .iload_n 3, 1), (934, .iconst 3, 1), (935, .iadd, 1), (936, .iaload, 1), (937, .aload_n 0, 1), (938, .iload_n 3, 1), (939, .iconst 4, 1), (940, .iadd, 1), (941, .iaload, 1), (942, .invokevirtual 118, 3), (945, .pop, 1), (946, .goto 475, 3), (949, .aload_n 1, 1), (950, .aload_n 0, 1), (951, .iload_n 3, 1), (952, .iconst 1, 1), (953, .iadd, 1), (954, .iaload, 1), (955, .aload_n 0, 1), (956, .iload_n 3, 1), (957, .iconst 2, 1), (958, .iadd, 1), (959, .iaload, 1), (960, .aload_n 0, 1), (961, .iload_n 3, 1), (962, .iconst 3, 1), (963, .iadd, 1), (964, .iaload, 1), (965, .invokevirtual 119, 3), (968, .pop, 1), (969, .aload_n 2, 1), (970, .aload_n 0, 1), (971, .iload_n 3, 1), (972, .iconst 1, 1), (973, .iadd, 1)]
set_option maxRecDepth 100000 in
theorem tk_L_law_16 : (tb_L_law_16.all fun q => decide (decode cL_law q.1 = .ok q.2)) = true := by decide +kernel
theorem dL_law_928 : decode cL_law 928 = .ok (.iload_n 3, 1) := tb_d tk_L_law_16 0 (928, .iload_n 3, 1) rfl
theorem dL_law_929 : decode cL_law 929 = .ok (.iconst 2, 1) := tb_d tk_L_law_16 1 (929, .iconst 2, 1) rfl
theorem dL_law_930 : decode cL_law 930 = .ok (.iadd, 1) := tb_d tk_L_law_16 2 (930, .iadd, 1) rfl
theorem dL_law_931 : decode cL_law 931 = .ok (.iaload, 1) := tb_d tk_L_law_16 3 (931, .iaload, 1) rfl
theorem dL_law_932 : decode cL_law 932 = .ok (.aload_n 0, 1) := tb_d tk_L_law_16 4 (932, .aload_n 0, 1) rfl
theorem dL_law_933 : decode cL_law 933 = .ok (.iload_n 3, 1) := tb_d tk_L_law_16 5 (933, .iload_n 3, 1) rfl
theorem dL_law_934 : decode cL_law 934 = .ok (.iconst 3, 1) := tb_d tk_L_law_16 6 (934, .iconst 3, 1) rfl
theorem dL_law_935 : decode cL_law 935 = .ok (.iadd, 1) := tb_d tk_L_law_16 7 (935, .iadd, 1) rfl
theorem dL_law_936 : decode cL_law 936 = .ok (.iaload, 1) := tb_d tk_L_law_16 8 (936, .iaload, 1) rfl
theorem dL_law_937 : decode cL_law 937 = .ok (.aload_n 0, 1) := tb_d tk_L_law_16 9 (937, .aload_n 0, 1) rfl
theorem dL_law_938 : decode cL_law 938 = .ok (.iload_n 3, 1) := tb_d tk_L_law_16 10 (938, .iload_n 3, 1) rfl
theorem dL_law_939 : decode cL_law 939 = .ok (.iconst 4, 1) := tb_d tk_L_law_16 11 (939, .iconst 4, 1) rfl
theorem dL_law_940 : decode cL_law 940 = .ok (.iadd, 1) := tb_d tk_L_law_16 12 (940, .iadd, 1) rfl
theorem dL_law_941 : decode cL_law 941 = .ok (.iaload, 1) := tb_d tk_L_law_16 13 (941, .iaload, 1) rfl
theorem dL_law_942 : decode cL_law 942 = .ok (.invokevirtual 118, 3) := tb_d tk_L_law_16 14 (942, .invokevirtual 118, 3) rfl
theorem dL_law_945 : decode cL_law 945 = .ok (.pop, 1) := tb_d tk_L_law_16 15 (945, .pop, 1) rfl
theorem dL_law_946 : decode cL_law 946 = .ok (.goto 475, 3) := tb_d tk_L_law_16 16 (946, .goto 475, 3) rfl
theorem dL_law_949 : decode cL_law 949 = .ok (.aload_n 1, 1) := tb_d tk_L_law_16 17 (949, .aload_n 1, 1) rfl
theorem dL_law_950 : decode cL_law 950 = .ok (.aload_n 0, 1) := tb_d tk_L_law_16 18 (950, .aload_n 0, 1) rfl
theorem dL_law_951 : decode cL_law 951 = .ok (.iload_n 3, 1) := tb_d tk_L_law_16 19 (951, .iload_n 3, 1) rfl
theorem dL_law_952 : decode cL_law 952 = .ok (.iconst 1, 1) := tb_d tk_L_law_16 20 (952, .iconst 1, 1) rfl
theorem dL_law_953 : decode cL_law 953 = .ok (.iadd, 1) := tb_d tk_L_law_16 21 (953, .iadd, 1) rfl
theorem dL_law_954 : decode cL_law 954 = .ok (.iaload, 1) := tb_d tk_L_law_16 22 (954, .iaload, 1) rfl
theorem dL_law_955 : decode cL_law 955 = .ok (.aload_n 0, 1) := tb_d tk_L_law_16 23 (955, .aload_n 0, 1) rfl
theorem dL_law_956 : decode cL_law 956 = .ok (.iload_n 3, 1) := tb_d tk_L_law_16 24 (956, .iload_n 3, 1) rfl
theorem dL_law_957 : decode cL_law 957 = .ok (.iconst 2, 1) := tb_d tk_L_law_16 25 (957, .iconst 2, 1) rfl
theorem dL_law_958 : decode cL_law 958 = .ok (.iadd, 1) := tb_d tk_L_law_16 26 (958, .iadd, 1) rfl
theorem dL_law_959 : decode cL_law 959 = .ok (.iaload, 1) := tb_d tk_L_law_16 27 (959, .iaload, 1) rfl
theorem dL_law_960 : decode cL_law 960 = .ok (.aload_n 0, 1) := tb_d tk_L_law_16 28 (960, .aload_n 0, 1) rfl
theorem dL_law_961 : decode cL_law 961 = .ok (.iload_n 3, 1) := tb_d tk_L_law_16 29 (961, .iload_n 3, 1) rfl
theorem dL_law_962 : decode cL_law 962 = .ok (.iconst 3, 1) := tb_d tk_L_law_16 30 (962, .iconst 3, 1) rfl
theorem dL_law_963 : decode cL_law 963 = .ok (.iadd, 1) := tb_d tk_L_law_16 31 (963, .iadd, 1) rfl
theorem dL_law_964 : decode cL_law 964 = .ok (.iaload, 1) := tb_d tk_L_law_16 32 (964, .iaload, 1) rfl
theorem dL_law_965 : decode cL_law 965 = .ok (.invokevirtual 119, 3) := tb_d tk_L_law_16 33 (965, .invokevirtual 119, 3) rfl
theorem dL_law_968 : decode cL_law 968 = .ok (.pop, 1) := tb_d tk_L_law_16 34 (968, .pop, 1) rfl
theorem dL_law_969 : decode cL_law 969 = .ok (.aload_n 2, 1) := tb_d tk_L_law_16 35 (969, .aload_n 2, 1) rfl
theorem dL_law_970 : decode cL_law 970 = .ok (.aload_n 0, 1) := tb_d tk_L_law_16 36 (970, .aload_n 0, 1) rfl
theorem dL_law_971 : decode cL_law 971 = .ok (.iload_n 3, 1) := tb_d tk_L_law_16 37 (971, .iload_n 3, 1) rfl
theorem dL_law_972 : decode cL_law 972 = .ok (.iconst 1, 1) := tb_d tk_L_law_16 38 (972, .iconst 1, 1) rfl
theorem dL_law_973 : decode cL_law 973 = .ok (.iadd, 1) := tb_d tk_L_law_16 39 (973, .iadd, 1) rfl
def tb_L_law_17 : List (Nat × Instr × Nat) := [(974, .iaload, 1), (975, .aload_n 0, 1), (976, .iload_n 3, 1), (977, .iconst 2, 1), (978, .iadd, 1), (979, .iaload, 1), (980, .aload_n 0, 1), (981, .iload_n 3, 1), (982, .iconst 3, 1), (983, .iadd, 1), (984, .iaload, 1), (985, .invokevirtual 122, 3), (988, .pop, 1), (989, .goto 432, 3), (992, .aload_n 1, 1), (993, .aload_n 0, 1), (994, .iload_n 3, 1), (995, .iconst 1, 1), (996, .iadd, 1), (997, .iaload, 1), (998, .aload_n 0, 1), (999, .iload_n 3, 1), (1000, .iconst 2, 1), (1001, .iadd, 1), (1002, .iaload, 1), (1003, .invokevirtual 123, 3), (1006, .pop, 1), (1007, .aload_n 2, 1), (1008, .aload_n 0, 1), (1009, .iload_n 3, 1), (1010, .iconst 1, 1), (1011, .iadd, 1), (1012, .iaload, 1), (1013, .aload_n 0, 1), (1014, .iload_n 3, 1), (1015, .iconst 2, 1), (1016, .iadd, 1), (1017, .iaload, 1), (1018, .invokevirtual 126, 3), (1021, .pop, 1)]
set_option maxRecDepth 100000 in
theorem tk_L_law_17 : (tb_L_law_17.all fun q => decide (decode cL_law q.1 = .ok q.2)) = true := by decide +kernel
theorem dL_law_974 : decode cL_law 974 = .ok (.iaload, 1) := tb_d tk_L_law_17 0 (974, .iaload, 1) rfl
theorem dL_law_975 : decode cL_law 975 = .ok (.aload_n 0, 1) := tb_d tk_L_law_17 1 (975, .aload_n 0, 1) rfl
theorem dL_law_976 : decode cL_law 976 = .ok (.iload_n 3, 1) := tb_d tk_L_law_17 2 (976, .iload_n 3, 1) rfl
theorem dL_law_977 : decode cL_law 977 = .ok (.iconst 2, 1) := tb_d tk_L_law_17 3 (977, .iconst 2, 1) rfl
theorem dL_law_978 : decode cL_law 978 = .ok (.iadd, 1) := tb_d tk_L_law_17 4 (978, .iadd, 1) rfl
theorem dL_law_979 : decode cL_law 979 = .ok (.iaload, 1) := tb_d tk_L_law_17 5 (979, .iaload, 1) rfl
theorem dL_law_980 : decode cL_law 980 = .ok (.aload_n 0, 1) := tb_d tk_L_law_17 6 (980, .aload_n 0, 1) rfl
theorem dL_law_981 : decode cL_law 981 = .ok (.iload_n 3, 1) := tb_d tk_L_law_17 7 (981, .iload_n 3, 1) rfl
theorem dL_law_982 : decode cL_law 982 = .ok (.iconst 3, 1) := tb_d tk_L_law_17 8 (982, .iconst 3, 1) rfl
theorem dL_law_983 : decode cL_law 983 = .ok (.iadd, 1) := tb_d tk_L_law_17 9 (983, .iadd, 1) rfl
theorem dL_law_984 : decode cL_law 984 = .ok (.iaload, 1) := tb_d tk_L_law_17 10 (984, .iaload, 1) rfl
theorem dL_law_985 : decode cL_law 985 = .ok (.invokevirtual 122, 3) := tb_d tk_L_law_17 11 (985, .invokevirtual 122, 3) rfl
theorem dL_law_988 : decode cL_law 988 = .ok (.pop, 1) := tb_d tk_L_law_17 12 (988, .pop, 1) rfl
theorem dL_law_989 : decode cL_law 989 = .ok (.goto 432, 3) := tb_d tk_L_law_17 13 (989, .goto 432, 3) rfl
theorem dL_law_992 : decode cL_law 992 = .ok (.aload_n 1, 1) := tb_d tk_L_law_17 14 (992, .aload_n 1, 1) rfl
theorem dL_law_993 : decode cL_law 993 = .ok (.aload_n 0, 1) := tb_d tk_L_law_17 15 (993, .aload_n 0, 1) rfl
theorem dL_law_994 : decode cL_law 994 = .ok (.iload_n 3, 1) := tb_d tk_L_law_17 16 (994, .iload_n 3, 1) rfl
theorem dL_law_995 : decode cL_law 995 = .ok (.iconst 1, 1) := tb_d tk_L_law_17 17 (995, .iconst 1, 1) rfl
theorem dL_law_996 : decode cL_law 996 = .ok (.iadd, 1) := tb_d tk_L_law_17 18 (996, .iadd, 1) rfl
theorem dL_law_997 : decode cL_law 997 = .ok (.iaload, 1) := tb_d tk_L_law_17 19 (997, .iaload, 1) rfl
theorem dL_law_998 : decode cL_law 998 = .ok (.aload_n 0, 1) := tb_d tk_L_law_17 20 (998, .aload_n 0, 1) rfl
theorem dL_law_999 : decode cL_law 999 = .ok (.iload_n 3, 1) := tb_d tk_L_law_17 21 (999, .iload_n 3, 1) rfl
theorem dL_law_1000 : decode cL_law 1000 = .ok (.iconst 2, 1) := tb_d tk_L_law_17 22 (1000, .iconst 2, 1) rfl
theorem dL_law_1001 : decode cL_law 1001 = .ok (.iadd, 1) := tb_d tk_L_law_17 23 (1001, .iadd, 1) rfl
theorem dL_law_1002 : decode cL_law 1002 = .ok (.iaload, 1) := tb_d tk_L_law_17 24 (1002, .iaload, 1) rfl
theorem dL_law_1003 : decode cL_law 1003 = .ok (.invokevirtual 123, 3) := tb_d tk_L_law_17 25 (1003, .invokevirtual 123, 3) rfl
theorem dL_law_1006 : decode cL_law 1006 = .ok (.pop, 1) := tb_d tk_L_law_17 26 (1006, .pop, 1) rfl
theorem dL_law_1007 : decode cL_law 1007 = .ok (.aload_n 2, 1) := tb_d tk_L_law_17 27 (1007, .aload_n 2, 1) rfl
theorem dL_law_1008 : decode cL_law 1008 = .ok (.aload_n 0, 1) := tb_d tk_L_law_17 28 (1008, .aload_n 0, 1) rfl
theorem dL_law_1009 : decode cL_law 1009 = .ok (.iload_n 3, 1) := tb_d tk_L_law_17 29 (1009, .iload_n 3, 1) rfl
theorem dL_law_1010 : decode cL_law 1010 = .ok (.iconst 1, 1) := tb_d tk_L_law_17 30 (1010, .iconst 1, 1) rfl
theorem dL_law_1011 : decode cL_law 1011 = .ok (.iadd, 1) := tb_d tk_L_law_17 31 (1011, .iadd, 1) rfl
theorem dL_law_1012 : decode cL_law 1012 = .ok (.iaload, 1) := tb_d tk_L_law_17 32 (1012, .iaload, 1) rfl
theorem dL_law_1013 : decode cL_law 1013 = .ok (.aload_n 0, 1) := tb_d tk_L_law_17 33 (1013, .aload_n 0, 1) rfl
theorem dL_law_1014 : decode cL_law 1014 = .ok (.iload_n 3, 1) := tb_d tk_L_law_17 34 (1014, .iload_n 3, 1) rfl
theorem dL_law_1015 : decode cL_law 1015 = .ok (.iconst 2, 1) := tb_d tk_L_law_17 35 (1015, .iconst 2, 1) rfl
theorem dL_law_1016 : decode cL_law 1016 = .ok (.iadd, 1) := tb_d tk_L_law_17 36 (1016, .iadd, 1) rfl
theorem dL_law_1017 : decode cL_law 1017 = .ok (.iaload, 1) := tb_d tk_L_law_17 37 (1017, .iaload, 1) rfl
theorem dL_law_1018 : decode cL_law 1018 = .ok (.invokevirtual 126, 3) := tb_d tk_L_law_17 38 (1018, .invokevirtual 126, 3) rfl
theorem dL_law_1021 : decode cL_law 1021 = .ok (.pop, 1) := tb_d tk_L_law_17 39 (1021, .pop, 1) rfl
def tb_L_law_18 : List (Nat × Instr × Nat) := [(1022, .goto 399, 3), (1025, .aload_n 1, 1), (1026, .aload_n 0, 1), (1027, .iload_n 3, 1), (1028, .iconst 1, 1), (1029, .iadd, 1), (1030, .iaload, 1), (1031, .aload_n 0, 1), (1032, .iload_n 3, 1), (1033, .iconst 2, 1), (1034, .iadd, 1), (1035, .iaload, 1), (1036, .aload_n 0, 1), (1037, .iload_n 3, 1), (1038, .iconst 3, 1), (1039, .iadd, 1), (1040, .iaload, 1), (1041, .aload_n 0, 1), (1042, .iload_n 3, 1), (1043, .iconst 4, 1), (1044, .iadd, 1), (1045, .iaload, 1), (1046, .invokevirtual 127, 3), (1049, .pop, 1), (1050, .aload_n 2, 1), (1051, .aload_n 0, 1), (1052, .iload_n 3, 1), (1053, .iconst 1, 1), (1054, .iadd, 1), (1055, .iaload, 1), (1056, .aload_n 0, 1), (1057, .iload_n 3, 1), (1058, .iconst 2, 1), (1059, .iadd, 1), (1060, .iaload, 1), (1061, .aload_n 0, 1), (1062, .iload_n 3, 1), (1063, .iconst 3, 1), (1064, .iadd, 1), (1065, .iaload, 1)]
set_option maxRecDepth 100000 in
theorem tk_L_law_18 : (tb_L_law_18.all fun q => decide (decode cL_law q.1 = .ok q.2)) = true := by decide +kernel
theorem dL_law_1022 : decode cL_law 1022 = .ok (.goto 399, 3) := tb_d tk_L_law_18 0 (1022, .goto 399, 3) rfl
theorem dL_law_1025 : decode cL_law 1025 = .ok (.aload_n 1, 1) := tb_d tk_L_law_18 1 (1025, .aload_n 1, 1) rfl
theorem dL_law_1026 : decode cL_law 1026 = .ok (.aload_n 0, 1) := tb_d tk_L_law_18 2 (1026, .aload_n 0, 1) rfl
theorem dL_law_1027 : decode cL_law 1027 = .ok (.iload_n 3, 1) := tb_d tk_L_law_18 3 (1027, .iload_n 3, 1) rfl
theorem dL_law_1028 : decode cL_law 1028 = .ok (.iconst 1, 1) := tb_d tk_L_law_18 4 (1028, .iconst 1, 1) rfl
theorem dL_law_1029 : decode cL_law 1029 = .ok (.iadd, 1) := tb_d tk_L_law_18 5 (1029, .iadd, 1) rfl
theorem dL_law_1030 : decode cL_law 1030 = .ok (.iaload, 1) := tb_d tk_L_law_18 6 (1030, .iaload, 1) rfl
theorem dL_law_1031 : decode cL_law 1031 = .ok (.aload_n 0, 1) := tb_d tk_L_law_18 7 (1031, .aload_n 0, 1) rfl
theorem dL_law_1032 : decode cL_law 1032 = .ok (.iload_n 3, 1) := tb_d tk_L_law_18 8 (1032, .iload_n 3, 1) rfl
theorem dL_law_1033 : decode cL_law 1033 = .ok (.iconst 2, 1) := tb_d tk_L_law_18 9 (1033, .iconst 2, 1) rfl
theorem dL_law_1034 : decode cL_law 1034 = .ok (.iadd, 1) := tb_d tk_L_law_18 10 (1034, .iadd, 1) rfl
theorem dL_law_1035 : decode cL_law 1035 = .ok (.iaload, 1) := tb_d tk_L_law_18 11 (1035, .iaload, 1) rfl
theorem dL_law_1036 : decode cL_law 1036 = .ok (.aload_n 0, 1) := tb_d tk_L_law_18 12 (1036, .aload_n 0, 1) rfl
theorem dL_law_1037 : decode cL_law 1037 = .ok (.iload_n 3, 1) := tb_d tk_L_law_18 13 (1037, .iload_n 3, 1) rfl
theorem dL_law_1038 : decode cL_law 1038 = .ok (.iconst 3, 1) := tb_d tk_L_law_18 14 (1038, .iconst 3, 1) rfl
theorem dL_law_1039 : decode cL_law 1039 = .ok (.iadd, 1) := tb_d tk_L_law_18 15 (1039, .iadd, 1) rfl
theorem dL_law_1040 : decode cL_law 1040 = .ok (.iaload, 1) := tb_d tk_L_law_18 16 (1040, .iaload, 1) rfl
theorem dL_law_1041 : decode cL_law 1041 = .ok (.aload_n 0, 1) := tb_d tk_L_law_18 17 (1041, .aload_n 0, 1) rfl
theorem dL_law_1042 : decode cL_law 1042 = .ok (.iload_n 3, 1) := tb_d tk_L_law_18 18 (1042, .iload_n 3, 1) rfl
theorem dL_law_1043 : decode cL_law 1043 = .ok (.iconst 4, 1) := tb_d tk_L_law_18 19 (1043, .iconst 4, 1) rfl
theorem dL_law_1044 : decode cL_law 1044 = .ok (.iadd, 1) := tb_d tk_L_law_18 20 (1044, .iadd, 1) rfl
theorem dL_law_1045 : decode cL_law 1045 = .ok (.iaload, 1) := tb_d tk_L_law_18 21 (1045, .iaload, 1) rfl
theorem dL_law_1046 : decode cL_law 1046 = .ok (.invokevirtual 127, 3) := tb_d tk_L_law_18 22 (1046, .invokevirtual 127, 3) rfl
theorem dL_law_1049 : decode cL_law 1049 = .ok (.pop, 1) := tb_d tk_L_law_18 23 (1049, .pop, 1) rfl
theorem dL_law_1050 : decode cL_law 1050 = .ok (.aload_n 2, 1) := tb_d tk_L_law_18 24 (1050, .aload_n 2, 1) rfl
theorem dL_law_1051 : decode cL_law 1051 = .ok (.aload_n 0, 1) := tb_d tk_L_law_18 25 (1051, .aload_n 0, 1) rfl
theorem dL_law_1052 : decode cL_law 1052 = .ok (.iload_n 3, 1) := tb_d tk_L_law_18 26 (1052, .iload_n 3, 1) rfl
theorem dL_law_1053 : decode cL_law 1053 = .ok (.iconst 1, 1) := tb_d tk_L_law_18 27 (1053, .iconst 1, 1) rfl
theorem dL_law_1054 : decode cL_law 1054 = .ok (.iadd, 1) := tb_d tk_L_law_18 28 (1054, .iadd, 1) rfl
theorem dL_law_1055 : decode cL_law 1055 = .ok (.iaload, 1) := tb_d tk_L_law_18 29 (1055, .iaload, 1) rfl
theorem dL_law_1056 : decode cL_law 1056 = .ok (.aload_n 0, 1) := tb_d tk_L_law_18 30 (1056, .aload_n 0, 1) rfl
theorem dL_law_1057 : decode cL_law 1057 = .ok (.iload_n 3, 1) := tb_d tk_L_law_18 31 (1057, .iload_n 3, 1) rfl
theorem dL_law_1058 : decode cL_law 1058 = .ok (.iconst 2, 1) := tb_d tk_L_law_18 32 (1058, .iconst 2, 1) rfl
theorem dL_law_1059 : decode cL_law 1059 = .ok (.iadd, 1) := tb_d tk_L_law_18 33 (1059, .iadd, 1) rfl
theorem dL_law_1060 : decode cL_law 1060 = .ok (.iaload, 1) := tb_d tk_L_law_18 34 (1060, .iaload, 1) rfl
theorem dL_law_1061 : decode cL_law 1061 = .ok (.aload_n 0, 1) := tb_d tk_L_law_18 35 (1061, .aload_n 0, 1) rfl
theorem dL_law_1062 : decode cL_law 1062 = .ok (.iload_n 3, 1) := tb_d tk_L_law_18 36 (1062, .iload_n 3, 1) rfl
theorem dL_law_1063 : decode cL_law 1063 = .ok (.iconst 3, 1) := tb_d tk_L_law_18 37 (1063, .iconst 3, 1) rfl
theorem dL_law_1064 : decode cL_law 1064 = .ok (.iadd, 1) := tb_d tk_L_law_18 38 (1064, .iadd, 1) rfl
theorem dL_law_1065 : decode cL_law 1065 = .ok (.iaload, 1) := tb_d tk_L_law_18 39 (1065, .iaload, 1) rfl
def tb_L_law_19 : List (Nat × Instr × Nat) := [(1066, .aload_n 0, 1), (1067, .iload_n 3, 1), (1068, .iconst 4, 1), (1069, .iadd, 1), (1070, .iaload, 1), (1071, .invokevirtual 130, 3), (1074, .pop, 1), (1075, .goto 346, 3), (1078, .aload_n 1, 1), (1079, .aload_n 0, 1), (1080, .iload_n 3, 1), (1081, .iconst 1, 1), (1082, .iadd, 1), (1083, .iaload, 1), (1084, .aload_n 0, 1), (1085, .iload_n 3, 1), (1086, .iconst 2, 1), (1087, .iadd, 1), (1088, .iaload, 1), (1089, .aload_n 0, 1), (1090, .iload_n 3, 1), (1091, .iconst 3, 1), (1092, .iadd, 1), (1093, .iaload, 1), (1094, .aload_n 0, 1), (1095, .iload_n 3, 1), (1096, .iconst 4, 1), (1097, .iadd, 1), (1098, .iaload, 1), (1099, .invokevirtual 131, 3), (1102, .pop, 1), (1103, .aload_n 2, 1), (1104, .aload_n 0, 1), (1105, .iload_n 3, 1), (1106, .iconst 1, 1), (1107, .iadd, 1), (1108, .iaload, 1), (1109, .aload_n 0, 1), (1110, .iload_n 3, 1), (1111, .iconst 2, 1)]
set_option maxRecDepth 100000 in
theorem tk_L_law_19 : (tb_L_law_19.all fun q => decide (decode cL_law q.1 = .ok q.2)) = true := by decide +kernel
theorem dL_law_1066 : decode cL_law 1066 = .ok (.aload_n 0, 1) := tb_d tk_L_law_19 0 (1066, .aload_n 0, 1) rfl
theorem dL_law_1067 : decode cL_law 1067 = .ok (.iload_n 3, 1) := tb_d tk_L_law_19 1 (1067, .iload_n 3, 1) rfl
theorem dL_law_1068 : decode cL_law 1068 = .ok (.iconst 4, 1) := tb_d tk_L_law_19 2 (1068, .iconst 4, 1) rfl
theorem dL_law_1069 : decode cL_law 1069 = .ok (.iadd, 1) := tb_d tk_L_law_19 3 (1069, .iadd, 1) rfl
theorem dL_law_1070 : decode cL_law 1070 = .ok (.iaload, 1) := tb_d tk_L_law_19 4 (1070, .iaload, 1) rfl
theorem dL_law_1071 : decode cL_law 1071 = .ok (.invokevirtual 130, 3) := tb_d tk_L_law_19 5 (1071, .invokevirtual 130, 3) rfl
theorem dL_law_1074 : decode cL_law 1074 = .ok (.pop, 1) := tb_d tk_L_law_19 6 (1074, .pop, 1) rfl
theorem dL_law_1075 : decode cL_law 1075 = .ok (.goto 346, 3) := tb_d tk_L_law_19 7 (1075, .goto 346, 3) rfl
theorem dL_law_1078 : decode cL_law 1078 = .ok (.aload_n 1, 1) := tb_d tk_L_law_19 8 (1078, .aload_n 1, 1) rfl
theorem dL_law_1079 : decode cL_law 1079 = .ok (.aload_n 0, 1) := tb_d tk_L_law_19 9 (1079, .aload_n 0, 1) rfl
theorem dL_law_1080 : decode cL_law 1080 = .ok (.iload_n 3, 1) := tb_d tk_L_law_19 10 (1080, .iload_n 3, 1) rfl
theorem dL_law_1081 : decode cL_law 1081 = .ok (.iconst 1, 1) := tb_d tk_L_law_19 11 (1081, .iconst 1, 1) rfl
theorem dL_law_1082 : decode cL_law 1082 = .ok (.iadd, 1) := tb_d tk_L_law_19 12 (1082, .iadd, 1) rfl
theorem dL_law_1083 : decode cL_law 1083 = .ok (.iaload, 1) := tb_d tk_L_law_19 13 (1083, .iaload, 1) rfl
theorem dL_law_1084 : decode cL_law 1084 = .ok (.aload_n 0, 1) := tb_d tk_L_law_19 14 (1084, .aload_n 0, 1) rfl
theorem dL_law_1085 : decode cL_law 1085 = .ok (.iload_n 3, 1) := tb_d tk_L_law_19 15 (1085, .iload_n 3, 1) rfl
theorem dL_law_1086 : decode cL_law 1086 = .ok (.iconst 2, 1) := tb_d tk_L_law_19 16 (1086, .iconst 2, 1) rfl
theorem dL_law_1087 : decode cL_law 1087 = .ok (.iadd, 1) := tb_d tk_L_law_19 17 (1087, .iadd, 1) rfl
theorem dL_law_1088 : decode cL_law 1088 = .ok (.iaload, 1) := tb_d tk_L_law_19 18 (1088, .iaload, 1) rfl
theorem dL_law_1089 : decode cL_law 1089 = .ok (.aload_n 0, 1) := tb_d tk_L_law_19 19 (1089, .aload_n 0, 1) rfl
theorem dL_law_1090 : decode cL_law 1090 = .ok (.iload_n 3, 1) := tb_d tk_L_law_19 20 (1090, .iload_n 3, 1) rfl
theorem dL_law_1091 : decode cL_law 1091 = .ok (.iconst 3, 1) := tb_d tk_L_law_19 21 (1091, .iconst 3, 1) rfl
theorem dL_law_1092 : decode cL_law 1092 = .ok (.iadd, 1) := tb_d tk_L_law_19 22 (1092, .iadd, 1) rfl
theorem dL_law_1093 : decode cL_law 1093 = .ok (.iaload, 1) := tb_d tk_L_law_19 23 (1093, .iaload, 1) rfl
theorem dL_law_1094 : decode cL_law 1094 = .ok (.aload_n 0, 1) := tb_d tk_L_law_19 24 (1094, .aload_n 0, 1) rfl
theorem dL_law_1095 : decode cL_law 1095 = .ok (.iload_n 3, 1) := tb_d tk_L_law_19 25 (1095, .iload_n 3, 1) rfl
theorem dL_law_1096 : decode cL_law 1096 = .ok (.iconst 4, 1) := tb_d tk_L_law_19 26 (1096, .iconst 4, 1) rfl
theorem dL_law_1097 : decode cL_law 1097 = .ok (.iadd, 1) := tb_d tk_L_law_19 27 (1097, .iadd, 1) rfl
theorem dL_law_1098 : decode cL_law 1098 = .ok (.iaload, 1) := tb_d tk_L_law_19 28 (1098, .iaload, 1) rfl
theorem dL_law_1099 : decode cL_law 1099 = .ok (.invokevirtual 131, 3) := tb_d tk_L_law_19 29 (1099, .invokevirtual 131, 3) rfl
theorem dL_law_1102 : decode cL_law 1102 = .ok (.pop, 1) := tb_d tk_L_law_19 30 (1102, .pop, 1) rfl
theorem dL_law_1103 : decode cL_law 1103 = .ok (.aload_n 2, 1) := tb_d tk_L_law_19 31 (1103, .aload_n 2, 1) rfl
theorem dL_law_1104 : decode cL_law 1104 = .ok (.aload_n 0, 1) := tb_d tk_L_law_19 32 (1104, .aload_n 0, 1) rfl
theorem dL_law_1105 : decode cL_law 1105 = .ok (.iload_n 3, 1) := tb_d tk_L_law_19 33 (1105, .iload_n 3, 1) rfl
theorem dL_law_1106 : decode cL_law 1106 = .ok (.iconst 1, 1) := tb_d tk_L_law_19 34 (1106, .iconst 1, 1) rfl
theorem dL_law_1107 : decode cL_law 1107 = .ok (.iadd, 1) := tb_d tk_L_law_19 35 (1107, .iadd, 1) rfl
theorem dL_law_1108 : decode cL_law 1108 = .ok (.iaload, 1) := tb_d tk_L_law_19 36 (1108, .iaload, 1) rfl
theorem dL_law_1109 : decode cL_law 1109 = .ok (.aload_n 0, 1) := tb_d tk_L_law_19 37 (1109, .aload_n 0, 1) rfl
theorem dL_law_1110 : decode cL_law 1110 = .ok (.iload_n 3, 1) := tb_d tk_L_law_19 38 (1110, .iload_n 3, 1) rfl
theorem dL_law_1111 : decode cL_law 1111 = .ok (.iconst 2, 1) := tb_d tk_L_law_19 39 (1111, .iconst 2, 1) rfl
def tb_L_law_20 : List (Nat × Instr × Nat) := [(1112, .iadd, 1), (1113, .iaload, 1), (1114, .aload_n 0, 1), (1115, .iload_n 3, 1), (1116, .iconst 3, 1), (1117, .iadd, 1), (1118, .iaload, 1), (1119, .aload_n 0, 1), (1120, .iload_n 3, 1), (1121, .iconst 4, 1), (1122, .iadd, 1), (1123, .iaload, 1), (1124, .invokevirtual 134, 3), (1127, .pop, 1), (1128, .goto 293, 3), (1131, .aload_n 1, 1), (1132, .aload_n 0, 1), (1133, .iload_n 3, 1), (1134, .iconst 1, 1), (1135, .iadd, 1), (1136, .iaload, 1), (1137, .aload_n 0, 1), (1138, .iload_n 3, 1), (1139, .iconst 2, 1), (1140, .iadd, 1), (1141, .iaload, 1), (1142, .aload_n 0, 1), (1143, .iload_n 3, 1), (1144, .iconst 3, 1), (1145, .iadd, 1), (1146, .iaload, 1), (1147, .aload_n 0, 1), (1148, .iload_n 3, 1), (1149, .iconst 4, 1), (1150, .iadd, 1), (1151, .iaload, 1), (1152, .invokevirtual 135, 3), (1155, .pop, 1), (1156, .aload_n 2, 1), (1157, .aload_n 0, 1)]
set_option maxRecDepth 100000 in
theorem tk_L_law_20 : (tb_L_law_20.all fun q => decide (decode cL_law q.1 = .ok q.2)) = true := by decide +kernel
theorem dL_law_1112 : decode cL_law 1112 = .ok (.iadd, 1) := tb_d tk_L_law_20 0 (1112, .iadd, 1) rfl
theorem dL_law_1113 : decode cL_law 1113 = .ok (.iaload, 1) := tb_d tk_L_law_20 1 (1113, .iaload, 1) rfl
theorem dL_law_1114 : decode cL_law 1114 = .ok (.aload_n 0, 1) := tb_d tk_L_law_20 2 (1114, .aload_n 0, 1) rfl
theorem dL_law_1115 : decode cL_law 1115 = .ok (.iload_n 3, 1) := tb_d tk_L_law_20 3 (1115, .iload_n 3, 1) rfl
theorem dL_law_1116 : decode cL_law 1116 = .ok (.iconst 3, 1) := tb_d tk_L_law_20 4 (1116, .iconst 3, 1) rfl
theorem dL_law_1117 : decode cL_law 1117 = .ok (.iadd, 1) := tb_d tk_L_law_20 5 (1117, .iadd, 1) rfl
theorem dL_law_1118 : decode cL_law 1118 = .ok (.iaload, 1) := tb_d tk_L_law_20 6 (1118, .iaload, 1) rfl
theorem dL_law_1119 : decode cL_law 1119 = .ok (.aload_n 0, 1) := tb_d tk_L_law_20 7 (1119, .aload_n 0, 1) rfl
theorem dL_law_1120 : decode cL_law 1120 = .ok (.iload_n 3, 1) := tb_d tk_L_law_20 8 (1120, .iload_n 3, 1) rfl
theorem dL_law_1121 : decode cL_law 1121 = .ok (.iconst 4, 1) := tb_d tk_L_law_20 9 (1121, .iconst 4, 1) rfl
theorem dL_law_1122 : decode cL_law 1122 = .ok (.iadd, 1) := tb_d tk_L_law_20 10 (1122, .iadd, 1) rfl
theorem dL_law_1123 : decode cL_law 1123 = .ok (.iaload, 1) := tb_d tk_L_law_20 11 (1123, .iaload, 1) rfl
theorem dL_law_1124 : decode cL_law 1124 = .ok (.invokevirtual 134, 3) := tb_d tk_L_law_20 12 (1124, .invokevirtual 134, 3) rfl
theorem dL_law_1127 : decode cL_law 1127 = .ok (.pop, 1) := tb_d tk_L_law_20 13 (1127, .pop, 1) rfl
theorem dL_law_1128 : decode cL_law 1128 = .ok (.goto 293, 3) := tb_d tk_L_law_20 14 (1128, .goto 293, 3) rfl
theorem dL_law_1131 : decode cL_law 1131 = .ok (.aload_n 1, 1) := tb_d tk_L_law_20 15 (1131, .aload_n 1, 1) rfl
theorem dL_law_1132 : decode cL_law 1132 = .ok (.aload_n 0, 1) := tb_d tk_L_law_20 16 (1132, .aload_n 0, 1) rfl
theorem dL_law_1133 : decode cL_law 1133 = .ok (.iload_n 3, 1) := tb_d tk_L_law_20 17 (1133, .iload_n 3, 1) rfl
theorem dL_law_1134 : decode cL_law 1134 = .ok (.iconst 1, 1) := tb_d tk_L_law_20 18 (1134, .iconst 1, 1) rfl
theorem dL_law_1135 : decode cL_law 1135 = .ok (.iadd, 1) := tb_d tk_L_law_20 19 (1135, .iadd, 1) rfl
theorem dL_law_1136 : decode cL_law 1136 = .ok (.iaload, 1) := tb_d tk_L_law_20 20 (1136, .iaload, 1) rfl
theorem dL_law_1137 : decode cL_law 1137 = .ok (.aload_n 0, 1) := tb_d tk_L_law_20 21 (1137, .aload_n 0, 1) rfl
theorem dL_law_1138 : decode cL_law 1138 = .ok (.iload_n 3, 1) := tb_d tk_L_law_20 22 (1138, .iload_n 3, 1) rfl
theorem dL_law_1139 : decode cL_law 1139 = .ok (.iconst 2, 1) := tb_d tk_L_law_20 23 (1139, .iconst 2, 1) rfl
theorem dL_law_1140 : decode cL_law 1140 = .ok (.iadd, 1) := tb_d tk_L_law_20 24 (1140, .iadd, 1) rfl
theorem dL_law_1141 : decode cL_law 1141 = .ok (.iaload, 1) := tb_d tk_L_law_20 25 (1141, .iaload, 1) rfl
theorem dL_law_1142 : decode cL_law 1142 = .ok (.aload_n 0, 1) := tb_d tk_L_law_20 26 (1142, .aload_n 0, 1) rfl
theorem dL_law_1143 : decode cL_law 1143 = .ok (.iload_n 3, 1) := tb_d tk_L_law_20 27 (1143, .iload_n 3, 1) rfl
theorem dL_law_1144 : decode cL_law 1144 = .ok (.iconst 3, 1) := tb_d tk_L_law_20 28 (1144, .iconst 3, 1) rfl
theorem dL_law_1145 : decode cL_law 1145 = .ok (.iadd, 1) := tb_d tk_L_law_20 29 (1145, .iadd, 1) rfl
theorem dL_law_1146 : decode cL_law 1146 = .ok (.iaload, 1) := tb_d tk_L_law_20 30 (1146, .iaload, 1) rfl
theorem dL_law_1147 : decode cL_law 1147 = .ok (.aload_n 0, 1) := tb_d tk_L_law_20 31 (1147, .aload_n 0, 1) rfl
theorem dL_law_1148 : decode cL_law 1148 = .ok (.iload_n 3, 1) := tb_d tk_L_law_20 32 (1148, .iload_n 3, 1) rfl
theorem dL_law_1149 : decode cL_law 1149 = .ok (.iconst 4, 1) := tb_d tk_L_law_20 33 (1149, .iconst 4, 1) rfl
theorem dL_law_1150 : decode cL_law 1150 = .ok (.iadd, 1) := tb_d tk_L_law_20 34 (1150, .iadd, 1) rfl
theorem dL_law_1151 : decode cL_law 1151 = .ok (.iaload, 1) := tb_d tk_L_law_20 35 (1151, .iaload, 1) rfl
theorem dL_law_1152 : decode cL_law 1152 = .ok (.invokevirtual 135, 3) := tb_d tk_L_law_20 36 (1152, .invokevirtual 135, 3) rfl
theorem dL_law_1155 : decode cL_law 1155 = .ok (.pop, 1) := tb_d tk_L_law_20 37 (1155, .pop, 1) rfl
theorem dL_law_1156 : decode cL_law 1156 = .ok (.aload_n 2, 1) := tb_d tk_L_law_20 38 (1156, .aload_n 2, 1) rfl
theorem dL_law_1157 : decode cL_law 1157 = .ok (.aload_n 0, 1) := tb_d tk_L_law_20 39 (1157, .aload_n 0, 1) rfl
def tb_L_law_21 : List (Nat × Instr × Nat) := [(1158, .iload_n 3, 1), (1159, .iconst 1, 1), (1160, .iadd, 1), (1161, .iaload, 1), (1162, .aload_n 0, 1), (1163, .iload_n 3, 1), (1164, .iconst 2, 1), (1165, .iadd, 1), (1166, .iaload, 1), (1167, .aload_n 0, 1), (1168, .iload_n 3, 1), (1169, .iconst 3, 1), (1170, .iadd, 1), (1171, .iaload, 1), (1172, .aload_n 0, 1), (1173, .iload_n 3, 1), (1174, .iconst 4, 1), (1175, .iadd, 1), (1176, .iaload, 1), (1177, .invokevirtual 138, 3), (1180, .pop, 1), (1181, .goto 240, 3), (1184, .aload_n 1, 1), (1185, .aload_n 0, 1), (1186, .iload_n 3, 1), (1187, .iconst 1, 1), (1188, .iadd, 1), (1189, .iaload, 1), (1190, .aload_n 0, 1), (1191, .iload_n 3, 1), (1192, .iconst 2, 1), (1193, .iadd, 1), (1194, .iaload, 1), (1195, .aload_n 0, 1), (1196, .iload_n 3, 1), (1197, .iconst 3, 1), (1198, .iadd, 1), (1199, .iaload, 1), (1200, .invokevirtual 139, 3), (1203, .pop, 1)]
set_option maxRecDepth 100000 in
theorem tk_L_law_21 : (tb_L_law_21.all fun q => decide (decode cL_law q.1 = .ok q.2)) = true := by decide +kernel
theorem dL_law_1158 : decode cL_law 1158 = .ok (.iload_n 3, 1) := tb_d tk_L_law_21 0 (1158, .iload_n 3, 1) rfl
theorem dL_law_1159 : decode cL_law 1159 = .ok (.iconst 1, 1) := tb_d tk_L_law_21 1 (1159, .iconst 1, 1) rfl
theorem dL_law_1160 : decode cL_law 1160 = .ok (.iadd, 1) := tb_d tk_L_law_21 2 (1160, .iadd, 1) rfl
theorem dL_law_1161 : decode cL_law 1161 = .ok (.iaload, 1) := tb_d tk_L_law_21 3 (1161, .iaload, 1) rfl
theorem dL_law_1162 : decode cL_law 1162 = .ok (.aload_n 0, 1) := tb_d tk_L_law_21 4 (1162, .aload_n 0, 1) rfl
theorem dL_law_1163 : decode cL_law 1163 = .ok (.iload_n 3, 1) := tb_d tk_L_law_21 5 (1163, .iload_n 3, 1) rfl
theorem dL_law_1164 : decode cL_law 1164 = .ok (.iconst 2, 1) := tb_d tk_L_law_21 6 (1164, .iconst 2, 1) rfl
theorem dL_law_1165 : decode cL_law 1165 = .ok (.iadd, 1) := tb_d tk_L_law_21 7 (1165, .iadd, 1) rfl
theorem dL_law_1166 : decode cL_law 1166 = .ok (.iaload, 1) := tb_d tk_L_law_21 8 (1166, .iaload, 1) rfl
theorem dL_law_1167 : decode cL_law 1167 = .ok (.aload_n 0, 1) := tb_d tk_L_law_21 9 (1167, .aload_n 0, 1) rfl
theorem dL_law_1168 : decode cL_law 1168 = .ok (.iload_n 3, 1) := tb_d tk_L_law_21 10 (1168, .iload_n 3, 1) rfl
theorem dL_law_1169 : decode cL_law 1169 = .ok (.iconst 3, 1) := tb_d tk_L_law_21 11 (1169, .iconst 3, 1) rfl
theorem dL_law_1170 : decode cL_law 1170 = .ok (.iadd, 1) := tb_d tk_L_law_21 12 (1170, .iadd, 1) rfl
theorem dL_law_1171 : decode cL_law 1171 = .ok (.iaload, 1) := tb_d tk_L_law_21 13 (1171, .iaload, 1) rfl
theorem dL_law_1172 : decode cL_law 1172 = .ok (.aload_n 0, 1) := tb_d tk_L_law_21 14 (1172, .aload_n 0, 1) rfl
theorem dL_law_1173 : decode cL_law 1173 = .ok (.iload_n 3, 1) := tb_d tk_L_law_21 15 (1173, .iload_n 3, 1) rfl
theorem dL_law_1174 : decode cL_law 1174 = .ok (.iconst 4, 1) := tb_d tk_L_law_21 16 (1174, .iconst 4, 1) rfl
theorem dL_law_1175 : decode cL_law 1175 = .ok (.iadd, 1) := tb_d tk_L_law_21 17 (1175, .iadd, 1) rfl
theorem dL_law_1176 : decode cL_law 1176 = .ok (.iaload, 1) := tb_d tk_L_law_21 18 (1176, .iaload, 1) rfl
theorem dL_law_1177 : decode cL_law 1177 = .ok (.invokevirtual 138, 3) := tb_d tk_L_law_21 19 (1177, .invokevirtual 138, 3) rfl
theorem dL_law_1180 : decode cL_law 1180 = .ok (.pop, 1) := tb_d tk_L_law_21 20 (1180, .pop, 1) rfl
theorem dL_law_1181 : decode cL_law 1181 = .ok (.goto 240, 3) := tb_d tk_L_law_21 21 (1181, .goto 240, 3) rfl
theorem dL_law_1184 : decode cL_law 1184 = .ok (.aload_n 1, 1) := tb_d tk_L_law_21 22 (1184, .aload_n 1, 1) rfl
theorem dL_law_1185 : decode cL_law 1185 = .ok (.aload_n 0, 1) := tb_d tk_L_law_21 23 (1185, .aload_n 0, 1) rfl
theorem dL_law_1186 : decode cL_law 1186 = .ok (.iload_n 3, 1) := tb_d tk_L_law_21 24 (1186, .iload_n 3, 1) rfl
theorem dL_law_1187 : decode cL_law 1187 = .ok (.iconst 1, 1) := tb_d tk_L_law_21 25 (1187, .iconst 1, 1) rfl
theorem dL_law_1188 : decode cL_law 1188 = .ok (.iadd, 1) := tb_d tk_L_law_21 26 (1188, .iadd, 1) rfl
theorem dL_law_1189 : decode cL_law 1189 = .ok (.iaload, 1) := tb_d tk_L_law_21 27 (1189, .iaload, 1) rfl
theorem dL_law_1190 : decode cL_law 1190 = .ok (.aload_n 0, 1) := tb_d tk_L_law_21 28 (1190, .aload_n 0, 1) rfl
theorem dL_law_1191 : decode cL_law 1191 = .ok (.iload_n 3, 1) := tb_d tk_L_law_21 29 (1191, .iload_n 3, 1) rfl
theorem dL_law_1192 : decode cL_law 1192 = .ok (.iconst 2, 1) := tb_d tk_L_law_21 30 (1192, .iconst 2, 1) rfl
theorem dL_law_1193 : decode cL_law 1193 = .ok (.iadd, 1) := tb_d tk_L_law_21 31 (1193, .iadd, 1) rfl
theorem dL_law_1194 : decode cL_law 1194 = .ok (.iaload, 1) := tb_d tk_L_law_21 32 (1194, .iaload, 1) rfl
theorem dL_law_1195 : decode cL_law 1195 = .ok (.aload_n 0, 1) := tb_d tk_L_law_21 33 (1195, .aload_n 0, 1) rfl
theorem dL_law_1196 : decode cL_law 1196 = .ok (.iload_n 3, 1) := tb_d tk_L_law_21 34 (1196, .iload_n 3, 1) rfl
theorem dL_law_1197 : decode cL_law 1197 = .ok (.iconst 3, 1) := tb_d tk_L_law_21 35 (1197, .iconst 3, 1) rfl
theorem dL_law_1198 : decode cL_law 1198 = .ok (.iadd, 1) := tb_d tk_L_law_21 36 (1198, .iadd, 1) rfl
theorem dL_law_1199 : decode cL_law 1199 = .ok (.iaload, 1) := tb_d tk_L_law_21 37 (1199, .iaload, 1) rfl
theorem dL_law_1200 : decode cL_law 1200 = .ok (.invokevirtual 139, 3) := tb_d tk_L_law_21 38 (1200, .invokevirtual 139, 3) rfl
theorem dL_law_1203 : decode cL_law 1203 = .ok (.pop, 1) := tb_d tk_L_law_21 39 (1203, .pop, 1) rfl
def tb_L_law_22 : List (Nat × Instr × Nat) := [(1204, .aload_n 2, 1), (1205, .aload_n 0, 1), (1206, .iload_n 3, 1), (1207, .iconst 1, 1), (1208, .iadd, 1), (1209, .iaload, 1), (1210, .aload_n 0, 1), (1211, .iload_n 3, 1), (1212, .iconst 2, 1), (1213, .iadd, 1), (1214, .iaload, 1), (1215, .aload_n 0, 1), (1216, .iload_n 3, 1), (1217, .iconst 3, 1), (1218, .iadd, 1), (1219, .iaload, 1), (1220, .invokevirtual 142, 3), (1223, .pop, 1), (1224, .goto 197, 3), (1227, .aload_n 1, 1), (1228, .aload_n 0, 1), (1229, .iload_n 3, 1), (1230, .iconst 1, 1), (1231, .iadd, 1), (1232, .iaload, 1), (1233, .invokevirtual 143, 3), (1236, .pop, 1), (1237, .aload_n 2, 1), (1238, .aload_n 0, 1), (1239, .iload_n 3, 1), (1240, .iconst 1, 1), (1241, .iadd, 1), (1242, .iaload, 1), (1243, .invokevirtual 146, 3), (1246, .pop, 1), (1247, .goto 174, 3), (1250, .aload_n 1, 1), (1251, .aload_n 0, 1), (1252, .iload_n 3, 1), (1253, .iconst 1, 1)]
set_option maxRecDepth 100000 in
theorem tk_L_law_22 : (tb_L_law_22.all fun q => decide (decode cL_law q.1 = .ok q.2)) = true := by decide +kernel
theorem dL_law_1204 : decode cL_law 1204 = .ok (.aload_n 2, 1) := tb_d tk_L_law_22 0 (1204, .aload_n 2, 1) rfl
theorem dL_law_1205 : decode cL_law 1205 = .ok (.aload_n 0, 1) := tb_d tk_L_law_22 1 (1205, .aload_n 0, 1) rfl
theorem dL_law_1206 : decode cL_law 1206 = .ok (.iload_n 3, 1) := tb_d tk_L_law_22 2 (1206, .iload_n 3, 1) rfl
theorem dL_law_1207 : decode cL_law 1207 = .ok (.iconst 1, 1) := tb_d tk_L_law_22 3 (1207, .iconst 1, 1) rfl
theorem dL_law_1208 : decode cL_law 1208 = .ok (.iadd, 1) := tb_d tk_L_law_22 4 (1208, .iadd, 1) rfl
theorem dL_law_1209 : decode cL_law 1209 = .ok (.iaload, 1) := tb_d tk_L_law_22 5 (1209, .iaload, 1) rfl
theorem dL_law_1210 : decode cL_law 1210 = .ok (.aload_n 0, 1) := tb_d tk_L_law_22 6 (1210, .aload_n 0, 1) rfl
theorem dL_law_1211 : decode cL_law 1211 = .ok (.iload_n 3, 1) := tb_d tk_L_law_22 7 (1211, .iload_n 3, 1) rfl
theorem dL_law_1212 : decode cL_law 1212 = .ok (.iconst 2, 1) := tb_d tk_L_law_22 8 (1212, .iconst 2, 1) rfl
theorem dL_law_1213 : decode cL_law 1213 = .ok (.iadd, 1) := tb_d tk_L_law_22 9 (1213, .iadd, 1) rfl
theorem dL_law_1214 : decode cL_law 1214 = .ok (.iaload, 1) := tb_d tk_L_law_22 10 (1214, .iaload, 1) rfl
theorem dL_law_1215 : decode cL_law 1215 = .ok (.aload_n 0, 1) := tb_d tk_L_law_22 11 (1215, .aload_n 0, 1) rfl
theorem dL_law_1216 : decode cL_law 1216 = .ok (.iload_n 3, 1) := tb_d tk_L_law_22 12 (1216, .iload_n 3, 1) rfl
theorem dL_law_1217 : decode cL_law 1217 = .ok (.iconst 3, 1) := tb_d tk_L_law_22 13 (1217, .iconst 3, 1) rfl
theorem dL_law_1218 : decode cL_law 1218 = .ok (.iadd, 1) := tb_d tk_L_law_22 14 (1218, .iadd, 1) rfl
theorem dL_law_1219 : decode cL_law 1219 = .ok (.iaload, 1) := tb_d tk_L_law_22 15 (1219, .iaload, 1) rfl
theorem dL_law_1220 : decode cL_law 1220 = .ok (.invokevirtual 142, 3) := tb_d tk_L_law_22 16 (1220, .invokevirtual 142, 3) rfl
theorem dL_law_1223 : decode cL_law 1223 = .ok (.pop, 1) := tb_d tk_L_law_22 17 (1223, .pop, 1) rfl
theorem dL_law_1224 : decode cL_law 1224 = .ok (.goto 197, 3) := tb_d tk_L_law_22 18 (1224, .goto 197, 3) rfl
theorem dL_law_1227 : decode cL_law 1227 = .ok (.aload_n 1, 1) := tb_d tk_L_law_22 19 (1227, .aload_n 1, 1) rfl
theorem dL_law_1228 : decode cL_law 1228 = .ok (.aload_n 0, 1) := tb_d tk_L_law_22 20 (1228, .aload_n 0, 1) rfl
theorem dL_law_1229 : decode cL_law 1229 = .ok (.iload_n 3, 1) := tb_d tk_L_law_22 21 (1229, .iload_n 3, 1) rfl
theorem dL_law_1230 : decode cL_law 1230 = .ok (.iconst 1, 1) := tb_d tk_L_law_22 22 (1230, .iconst 1, 1) rfl
theorem dL_law_1231 : decode cL_law 1231 = .ok (.iadd, 1) := tb_d tk_L_law_22 23 (1231, .iadd, 1) rfl
theorem dL_law_1232 : decode cL_law 1232 = .ok (.iaload, 1) := tb_d tk_L_law_22 24 (1232, .iaload, 1) rfl
theorem dL_law_1233 : decode cL_law 1233 = .ok (.invokevirtual 143, 3) := tb_d tk_L_law_22 25 (1233, .invokevirtual 143, 3) rfl
theorem dL_law_1236 : decode cL_law 1236 = .ok (.pop, 1) := tb_d tk_L_law_22 26 (1236, .pop, 1) rfl
theorem dL_law_1237 : decode cL_law 1237 = .ok (.aload_n 2, 1) := tb_d tk_L_law_22 27 (1237, .aload_n 2, 1) rfl
theorem dL_law_1238 : decode cL_law 1238 = .ok (.aload_n 0, 1) := tb_d tk_L_law_22 28 (1238, .aload_n 0, 1) rfl
theorem dL_law_1239 : decode cL_law 1239 = .ok (.iload_n 3, 1) := tb_d tk_L_law_22 29 (1239, .iload_n 3, 1) rfl
theorem dL_law_1240 : decode cL_law 1240 = .ok (.iconst 1, 1) := tb_d tk_L_law_22 30 (1240, .iconst 1, 1) rfl
theorem dL_law_1241 : decode cL_law 1241 = .ok (.iadd, 1) := tb_d tk_L_law_22 31 (1241, .iadd, 1) rfl
theorem dL_law_1242 : decode cL_law 1242 = .ok (.iaload, 1) := tb_d tk_L_law_22 32 (1242, .iaload, 1) rfl
theorem dL_law_1243 : decode cL_law 1243 = .ok (.invokevirtual 146, 3) := tb_d tk_L_law_22 33 (1243, .invokevirtual 146, 3) rfl
theorem dL_law_1246 : decode cL_law 1246 = .ok (.pop, 1) := tb_d tk_L_law_22 34 (1246, .pop, 1) rfl
theorem dL_law_1247 : decode cL_law 1247 = .ok (.goto 174, 3) := tb_d tk_L_law_22 35 (1247, .goto 174, 3) rfl
theorem dL_law_1250 : decode cL_law 1250 = .ok (.aload_n 1, 1) := tb_d tk_L_law_22 36 (1250, .aload_n 1, 1) rfl
theorem dL_law_1251 : decode cL_law 1251 = .ok (.aload_n 0, 1) := tb_d tk_L_law_22 37 (1251, .aload_n 0, 1) rfl
theorem dL_law_1252 : decode cL_law 1252 = .ok (.iload_n 3, 1) := tb_d tk_L_law_22 38 (1252, .iload_n 3, 1) rfl
theorem dL_law_1253 : decode cL_law 1253 = .ok (.iconst 1, 1) := tb_d tk_L_law_22 39 (1253, .iconst 1, 1) rfl
def tb_L_law_23 : List (Nat × Instr × Nat) := [(1254, .iadd, 1), (1255, .iaload, 1), (1256, .invokevirtual 147, 3), (1259, .pop, 1), (1260, .aload_n 2, 1), (1261, .aload_n 0, 1), (1262, .iload_n 3, 1), (1263, .iconst 1, 1), (1264, .iadd, 1), (1265, .iaload, 1), (1266, .invokevirtual 150, 3), (1269, .pop, 1), (1270, .goto 151, 3), (1273, .aload_n 1, 1), (1274, .aload_n 0, 1), (1275, .iload_n 3, 1), (1276, .iconst 1, 1), (1277, .iadd, 1), (1278, .iaload, 1), (1279, .invokevirtual 151, 3), (1282, .pop, 1), (1283, .aload_n 2, 1), (1284, .aload_n 0, 1), (1285, .iload_n 3, 1), (1286, .iconst 1, 1), (1287, .iadd, 1), (1288, .iaload, 1), (1289, .invokevirtual 154, 3), (1292, .pop, 1), (1293, .goto 128, 3), (1296, .aload_n 1, 1), (1297, .aload_n 0, 1), (1298, .iload_n 3, 1), (1299, .iconst 1, 1), (1300, .iadd, 1), (1301, .iaload, 1), (1302, .aload_n 0, 1), (1303, .iload_n 3, 1), (1304, .iconst 2, 1), (1305, .iadd, 1)]
set_option maxRecDepth 100000 in
theorem tk_L_law_23 : (tb_L_law_23.all fun q => decide (decode cL_law q.1 = .ok q.2)) = true := by decide +kernel
theorem dL_law_1254 : decode cL_law 1254 = .ok (.iadd, 1) := tb_d tk_L_law_23 0 (1254, .iadd, 1) rfl
theorem dL_law_1255 : decode cL_law 1255 = .ok (.iaload, 1) := tb_d tk_L_law_23 1 (1255, .iaload, 1) rfl
theorem dL_law_1256 : decode cL_law 1256 = .ok (.invokevirtual 147, 3) := tb_d tk_L_law_23 2 (1256, .invokevirtual 147, 3) rfl
theorem dL_law_1259 : decode cL_law 1259 = .ok (.pop, 1) := tb_d tk_L_law_23 3 (1259, .pop, 1) rfl
theorem dL_law_1260 : decode cL_law 1260 = .ok (.aload_n 2, 1) := tb_d tk_L_law_23 4 (1260, .aload_n 2, 1) rfl
theorem dL_law_1261 : decode cL_law 1261 = .ok (.aload_n 0, 1) := tb_d tk_L_law_23 5 (1261, .aload_n 0, 1) rfl
theorem dL_law_1262 : decode cL_law 1262 = .ok (.iload_n 3, 1) := tb_d tk_L_law_23 6 (1262, .iload_n 3, 1) rfl
theorem dL_law_1263 : decode cL_law 1263 = .ok (.iconst 1, 1) := tb_d tk_L_law_23 7 (1263, .iconst 1, 1) rfl
theorem dL_law_1264 : decode cL_law 1264 = .ok (.iadd, 1) := tb_d tk_L_law_23 8 (1264, .iadd, 1) rfl
theorem dL_law_1265 : decode cL_law 1265 = .ok (.iaload, 1) := tb_d tk_L_law_23 9 (1265, .iaload, 1) rfl
theorem dL_law_1266 : decode cL_law 1266 = .ok (.invokevirtual 150, 3) := tb_d tk_L_law_23 10 (1266, .invokevirtual 150, 3) rfl
theorem dL_law_1269 : decode cL_law 1269 = .ok (.pop, 1) := tb_d tk_L_law_23 11 (1269, .pop, 1) rfl
theorem dL_law_1270 : decode cL_law 1270 = .ok (.goto 151, 3) := tb_d tk_L_law_23 12 (1270, .goto 151, 3) rfl
theorem dL_law_1273 : decode cL_law 1273 = .ok (.aload_n 1, 1) := tb_d tk_L_law_23 13 (1273, .aload_n 1, 1) rfl
theorem dL_law_1274 : decode cL_law 1274 = .ok (.aload_n 0, 1) := tb_d tk_L_law_23 14 (1274, .aload_n 0, 1) rfl
theorem dL_law_1275 : decode cL_law 1275 = .ok (.iload_n 3, 1) := tb_d tk_L_law_23 15 (1275, .iload_n 3, 1) rfl
theorem dL_law_1276 : decode cL_law 1276 = .ok (.iconst 1, 1) := tb_d tk_L_law_23 16 (1276, .iconst 1, 1) rfl
theorem dL_law_1277 : decode cL_law 1277 = .ok (.iadd, 1) := tb_d tk_L_law_23 17 (1277, .iadd, 1) rfl
theorem dL_law_1278 : decode cL_law 1278 = .ok (.iaload, 1) := tb_d tk_L_law_23 18 (1278, .iaload, 1) rfl
theorem dL_law_1279 : decode cL_law 1279 = .ok (.invokevirtual 151, 3) := tb_d tk_L_law_23 19 (1279, .invokevirtual 151, 3) rfl
theorem dL_law_1282 : decode cL_law 1282 = .ok (.pop, 1) := tb_d tk_L_law_23 20 (1282, .pop, 1) rfl
theorem dL_law_1283 : decode cL_law 1283 = .ok (.aload_n 2, 1) := tb_d tk_L_law_23 21 (1283, .aload_n 2, 1) rfl
theorem dL_law_1284 : decode cL_law 1284 = .ok (.aload_n 0, 1) := tb_d tk_L_law_23 22 (1284, .aload_n 0, 1) rfl
theorem dL_law_1285 : decode cL_law 1285 = .ok (.iload_n 3, 1) := tb_d tk_L_law_23 23 (1285, .iload_n 3, 1) rfl
theorem dL_law_1286 : decode cL_law 1286 = .ok (.iconst 1, 1) := tb_d tk_L_law_23 24 (1286, .iconst 1, 1) rfl
theorem dL_law_1287 : decode cL_law 1287 = .ok (.iadd, 1) := tb_d tk_L_law_23 25 (1287, .iadd, 1) rfl
theorem dL_law_1288 : decode cL_law 1288 = .ok (.iaload, 1) := tb_d tk_L_law_23 26 (1288, .iaload, 1) rfl
theorem dL_law_1289 : decode cL_law 1289 = .ok (.invokevirtual 154, 3) := tb_d tk_L_law_23 27 (1289, .invokevirtual 154, 3) rfl
theorem dL_law_1292 : decode cL_law 1292 = .ok (.pop, 1) := tb_d tk_L_law_23 28 (1292, .pop, 1) rfl
theorem dL_law_1293 : decode cL_law 1293 = .ok (.goto 128, 3) := tb_d tk_L_law_23 29 (1293, .goto 128, 3) rfl
theorem dL_law_1296 : decode cL_law 1296 = .ok (.aload_n 1, 1) := tb_d tk_L_law_23 30 (1296, .aload_n 1, 1) rfl
theorem dL_law_1297 : decode cL_law 1297 = .ok (.aload_n 0, 1) := tb_d tk_L_law_23 31 (1297, .aload_n 0, 1) rfl
theorem dL_law_1298 : decode cL_law 1298 = .ok (.iload_n 3, 1) := tb_d tk_L_law_23 32 (1298, .iload_n 3, 1) rfl
theorem dL_law_1299 : decode cL_law 1299 = .ok (.iconst 1, 1) := tb_d tk_L_law_23 33 (1299, .iconst 1, 1) rfl
theorem dL_law_1300 : decode cL_law 1300 = .ok (.iadd, 1) := tb_d tk_L_law_23 34 (1300, .iadd, 1) rfl
theorem dL_law_1301 : decode cL_law 1301 = .ok (.iaload, 1) := tb_d tk_L_law_23 35 (1301, .iaload, 1) rfl
theorem dL_law_1302 : decode cL_law 1302 = .ok (.aload_n 0, 1) := tb_d tk_L_law_23 36 (1302, .aload_n 0, 1) rfl
theorem dL_law_1303 : decode cL_law 1303 = .ok (.iload_n 3, 1) := tb_d tk_L_law_23 37 (1303, .iload_n 3, 1) rfl
theorem dL_law_1304 : decode cL_law 1304 = .ok (.iconst 2, 1) := tb_d tk_L_law_23 38 (1304, .iconst 2, 1) rfl
theorem dL_law_1305 : decode cL_law 1305 = .ok (.iadd, 1) := tb_d tk_L_law_23 39 (1305, .iadd, 1) rfl
def tb_L_law_24 : List (Nat × Instr × Nat) := [(1306, .iaload, 1), (1307, .invokevirtual 155, 3), (1310, .pop, 1), (1311, .aload_n 2, 1), (1312, .aload_n 0, 1), (1313, .iload_n 3, 1), (1314, .iconst 1, 1), (1315, .iadd, 1), (1316, .iaload, 1), (1317, .aload_n 0, 1), (1318, .iload_n 3, 1), (1319, .iconst 2, 1), (1320, .iadd, 1), (1321, .iaload, 1), (1322, .invokevirtual 158, 3), (1325, .pop, 1), (1326, .goto 95, 3), (1329, .aload_n 1, 1), (1330, .aload_n 0, 1), (1331, .iload_n 3, 1), (1332, .iconst 1, 1), (1333, .iadd, 1), (1334, .iaload, 1), (1335, .aload_n 0, 1), (1336, .iload_n 3, 1), (1337, .iconst 2, 1), (1338, .iadd, 1), (1339, .iaload, 1), (1340, .invokevirtual 159, 3), (1343, .pop, 1), (1344, .aload_n 2, 1), (1345, .aload_n 0, 1), (1346, .iload_n 3, 1), (1347, .iconst 1, 1), (1348, .iadd, 1), (1349, .iaload, 1), (1350, .aload_n 0, 1), (1351, .iload_n 3, 1), (1352, .iconst 2, 1), (1353, .iadd, 1)]
set_option maxRecDepth 100000 in
theorem tk_L_law_24 : (tb_L_law_24.all fun q => decide (decode cL_law q.1 = .ok q.2)) = true := by decide +kernel
theorem dL_law_1306 : decode cL_law 1306 = .ok (.iaload, 1) := tb_d tk_L_law_24 0 (1306, .iaload, 1) rfl
theorem dL_law_1307 : decode cL_law 1307 = .ok (.invokevirtual 155, 3) := tb_d tk_L_law_24 1 (1307, .invokevirtual 155, 3) rfl
theorem dL_law_1310 : decode cL_law 1310 = .ok (.pop, 1) := tb_d tk_L_law_24 2 (1310, .pop, 1) rfl
theorem dL_law_1311 : decode cL_law 1311 = .ok (.aload_n 2, 1) := tb_d tk_L_law_24 3 (1311, .aload_n 2, 1) rfl
theorem dL_law_1312 : decode cL_law 1312 = .ok (.aload_n 0, 1) := tb_d tk_L_law_24 4 (1312, .aload_n 0, 1) rfl
theorem dL_law_1313 : decode cL_law 1313 = .ok (.iload_n 3, 1) := tb_d tk_L_law_24 5 (1313, .iload_n 3, 1) rfl
theorem dL_law_1314 : decode cL_law 1314 = .ok (.iconst 1, 1) := tb_d tk_L_law_24 6 (1314, .iconst 1, 1) rfl
theorem dL_law_1315 : decode cL_law 1315 = .ok (.iadd, 1) := tb_d tk_L_law_24 7 (1315, .iadd, 1) rfl
theorem dL_law_1316 : decode cL_law 1316 = .ok (.iaload, 1) := tb_d tk_L_law_24 8 (1316, .iaload, 1) rfl
theorem dL_law_1317 : decode cL_law 1317 = .ok (.aload_n 0, 1) := tb_d tk_L_law_24 9 (1317, .aload_n 0, 1) rfl
theorem dL_law_1318 : decode cL_law 1318 = .ok (.iload_n 3, 1) := tb_d tk_L_law_24 10 (1318, .iload_n 3, 1) rfl
theorem dL_law_1319 : decode cL_law 1319 = .ok (.iconst 2, 1) := tb_d tk_L_law_24 11 (1319, .iconst 2, 1) rfl
