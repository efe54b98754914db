set_option maxRecDepth 100000 in
theorem tw_520 : (Cond.methodLink RX2 74 yX2_guardOn) ∈ lw_tbl := ch_2 _ (List.mem_of_getElem? (l := tables_1_2) (i := 214) rfl)
set_option maxRecDepth 100000 in
theorem tw_521 : (Cond.methodLink RX2 77 yX2_isThere) ∈ lw_tbl := ch_2 _ (List.mem_of_getElem? (l := tables_1_2) (i := 215) rfl)
set_option maxRecDepth 100000 in
theorem tw_522 : (Cond.instanceMethod yX2_isThere) ∈ lw_tbl := ch_2 _ (List.mem_of_getElem? (l := tables_1_2) (i := 216) rfl)
set_option maxRecDepth 100000 in
theorem tw_523 : (Cond.selects RX2 yX2_isThere yX2_isThere) ∈ lw_tbl := ch_2 _ (List.mem_of_getElem? (l := tables_1_2) (i := 217) rfl)
set_option maxRecDepth 100000 in
theorem tw_524 : (Cond.code yX2_isThere cX2_isThere 2 (some .boolean)) ∈ lw_tbl := ch_2 _ (List.mem_of_getElem? (l := tables_1_2) (i := 218) rfl)
set_option maxRecDepth 100000 in
theorem tw_525 : (Cond.methodLink RX2 81 yX2_wouldTake) ∈ lw_tbl := ch_2 _ (List.mem_of_getElem? (l := tables_1_2) (i := 219) rfl)
set_option maxRecDepth 100000 in
theorem tw_526 : (Cond.instanceMethod yX2_wouldTake) ∈ lw_tbl := ch_2 _ (List.mem_of_getElem? (l := tables_1_2) (i := 220) rfl)
set_option maxRecDepth 100000 in
theorem tw_527 : (Cond.selects RX2 yX2_wouldTake yX2_wouldTake) ∈ lw_tbl := ch_2 _ (List.mem_of_getElem? (l := tables_1_2) (i := 221) rfl)
set_option maxRecDepth 100000 in
theorem tw_528 : (Cond.code yX2_wouldTake cX2_wouldTake 5 (some .boolean)) ∈ lw_tbl := ch_2 _ (List.mem_of_getElem? (l := tables_1_2) (i := 222) rfl)
set_option maxRecDepth 100000 in
theorem tw_529 : (Cond.methodLink RX2 68 yX2_distance) ∈ lw_tbl := ch_2 _ (List.mem_of_getElem? (l := tables_1_2) (i := 223) rfl)
set_option maxRecDepth 100000 in
theorem tw_530 : (Cond.methodLink RX2 71 yX2_lips) ∈ lw_tbl := ch_2 _ (List.mem_of_getElem? (l := tables_1_2) (i := 224) rfl)
set_option maxRecDepth 100000 in
theorem tw_531 : (Cond.instanceMethod yX2_lips) ∈ lw_tbl := ch_2 _ (List.mem_of_getElem? (l := tables_1_2) (i := 225) rfl)
set_option maxRecDepth 100000 in
theorem tw_532 : (Cond.selects RX2 yX2_lips yX2_lips) ∈ lw_tbl := ch_2 _ (List.mem_of_getElem? (l := tables_1_2) (i := 226) rfl)
set_option maxRecDepth 100000 in
theorem tw_533 : (Cond.code yX2_lips cX2_lips 5 (some .int)) ∈ lw_tbl := ch_2 _ (List.mem_of_getElem? (l := tables_1_2) (i := 227) rfl)
set_option maxRecDepth 100000 in
theorem tw_534 : (Cond.methodLink RX7 172 yX2_isThere) ∈ lw_tbl := ch_2 _ (List.mem_of_getElem? (l := tables_1_2) (i := 228) rfl)
set_option maxRecDepth 100000 in
theorem tw_535 : (Cond.constant RX7 175 (-1000000)) ∈ lw_tbl := ch_2 _ (List.mem_of_getElem? (l := tables_1_2) (i := 229) rfl)
set_option maxRecDepth 100000 in
theorem tw_536 : (Cond.methodLink RX7 176 yX4_addTry) ∈ lw_tbl := ch_2 _ (List.mem_of_getElem? (l := tables_1_2) (i := 230) rfl)
set_option maxRecDepth 100000 in
theorem tw_537 : (Cond.instanceMethod yX4_addTry) ∈ lw_tbl := ch_2 _ (List.mem_of_getElem? (l := tables_1_2) (i := 231) rfl)
set_option maxRecDepth 100000 in
theorem tw_538 : (Cond.selects RX4 yX4_addTry yX4_addTry) ∈ lw_tbl := ch_2 _ (List.mem_of_getElem? (l := tables_1_2) (i := 232) rfl)
set_option maxRecDepth 100000 in
theorem tw_539 : (Cond.code yX4_addTry cX4_addTry 4 none) ∈ lw_tbl := ch_2 _ (List.mem_of_getElem? (l := tables_1_2) (i := 233) rfl)
set_option maxRecDepth 100000 in
theorem tw_541 : (Cond.static yX7_bit) ∈ lw_tbl := ch_2 _ (List.mem_of_getElem? (l := tables_1_2) (i := 235) rfl)
set_option maxRecDepth 100000 in
theorem tw_542 : (Cond.code yX7_bit cX7_bit 1 (some .int)) ∈ lw_tbl := ch_2 _ (List.mem_of_getElem? (l := tables_1_2) (i := 236) rfl)
set_option maxRecDepth 100000 in
theorem tw_543 : (Cond.methodLink RX7 180 yX7_bit) ∈ lw_tbl := ch_2 _ (List.mem_of_getElem? (l := tables_1_2) (i := 237) rfl)
set_option maxRecDepth 100000 in
theorem tw_544 : (Cond.methodLink RL 54 yX7_start) ∈ lw_tbl := ch_2 _ (List.mem_of_getElem? (l := tables_1_2) (i := 238) rfl)
set_option maxRecDepth 100000 in
theorem tw_545 : (Cond.instanceMethod yX7_start) ∈ lw_tbl := ch_2 _ (List.mem_of_getElem? (l := tables_1_2) (i := 239) rfl)
set_option maxRecDepth 100000 in
theorem tw_546 : (Cond.selects RX7 yX7_start yX7_start) ∈ lw_tbl := ch_3 _ (List.mem_of_getElem? (l := tables_1_3) (i := 0) rfl)
set_option maxRecDepth 100000 in
theorem tw_547 : (Cond.code yX7_start cX7_start 3 (some .int)) ∈ lw_tbl := ch_3 _ (List.mem_of_getElem? (l := tables_1_3) (i := 1) rfl)
set_option maxRecDepth 100000 in
theorem tw_548 : (Cond.methodLink RL 58 yX7_dismiss) ∈ lw_tbl := ch_3 _ (List.mem_of_getElem? (l := tables_1_3) (i := 2) rfl)
set_option maxRecDepth 100000 in
theorem tw_549 : (Cond.instanceMethod yX7_dismiss) ∈ lw_tbl := ch_3 _ (List.mem_of_getElem? (l := tables_1_3) (i := 3) rfl)
set_option maxRecDepth 100000 in
theorem tw_550 : (Cond.selects RX7 yX7_dismiss yX7_dismiss) ∈ lw_tbl := ch_3 _ (List.mem_of_getElem? (l := tables_1_3) (i := 4) rfl)
set_option maxRecDepth 100000 in
theorem tw_551 : (Cond.code yX7_dismiss cX7_dismiss 3 (some .int)) ∈ lw_tbl := ch_3 _ (List.mem_of_getElem? (l := tables_1_3) (i := 5) rfl)
set_option maxRecDepth 100000 in
theorem tw_552 : (Cond.methodLink RX7 187 yX7_isGuard) ∈ lw_tbl := ch_3 _ (List.mem_of_getElem? (l := tables_1_3) (i := 6) rfl)
set_option maxRecDepth 100000 in
theorem tw_554 : (Cond.instanceMethod yX7_isGuard) ∈ lw_tbl := ch_3 _ (List.mem_of_getElem? (l := tables_1_3) (i := 8) rfl)
set_option maxRecDepth 100000 in
theorem tw_555 : (Cond.code yX7_isGuard cX7_isGuard 2 (some .boolean)) ∈ lw_tbl := ch_3 _ (List.mem_of_getElem? (l := tables_1_3) (i := 9) rfl)
set_option maxRecDepth 100000 in
theorem tw_556 : (Cond.methodLink RL 62 yX7_undo) ∈ lw_tbl := ch_3 _ (List.mem_of_getElem? (l := tables_1_3) (i := 10) rfl)
set_option maxRecDepth 100000 in
theorem tw_557 : (Cond.instanceMethod yX7_undo) ∈ lw_tbl := ch_3 _ (List.mem_of_getElem? (l := tables_1_3) (i := 11) rfl)
set_option maxRecDepth 100000 in
theorem tw_558 : (Cond.selects RX7 yX7_undo yX7_undo) ∈ lw_tbl := ch_3 _ (List.mem_of_getElem? (l := tables_1_3) (i := 12) rfl)
set_option maxRecDepth 100000 in
theorem tw_559 : (Cond.code yX7_undo cX7_undo 1 (some .int)) ∈ lw_tbl := ch_3 _ (List.mem_of_getElem? (l := tables_1_3) (i := 13) rfl)
set_option maxRecDepth 100000 in
theorem tw_560 : (Cond.methodLink RX7 193 yX0_takeBack) ∈ lw_tbl := ch_3 _ (List.mem_of_getElem? (l := tables_1_3) (i := 14) rfl)
set_option maxRecDepth 100000 in
theorem tw_561 : (Cond.instanceMethod yX0_takeBack) ∈ lw_tbl := ch_3 _ (List.mem_of_getElem? (l := tables_1_3) (i := 15) rfl)
set_option maxRecDepth 100000 in
theorem tw_562 : (Cond.selects RX0 yX0_takeBack yX0_takeBack) ∈ lw_tbl := ch_3 _ (List.mem_of_getElem? (l := tables_1_3) (i := 16) rfl)
set_option maxRecDepth 100000 in
theorem tw_563 : (Cond.code yX0_takeBack cX0_takeBack 2 (some .boolean)) ∈ lw_tbl := ch_3 _ (List.mem_of_getElem? (l := tables_1_3) (i := 17) rfl)
set_option maxRecDepth 100000 in
theorem tw_564 : (Cond.methodLink RL 66 yX7_letter) ∈ lw_tbl := ch_3 _ (List.mem_of_getElem? (l := tables_1_3) (i := 18) rfl)
set_option maxRecDepth 100000 in
theorem tw_565 : (Cond.instanceMethod yX7_letter) ∈ lw_tbl := ch_3 _ (List.mem_of_getElem? (l := tables_1_3) (i := 19) rfl)
set_option maxRecDepth 100000 in
theorem tw_566 : (Cond.selects RX7 yX7_letter yX7_letter) ∈ lw_tbl := ch_3 _ (List.mem_of_getElem? (l := tables_1_3) (i := 20) rfl)
set_option maxRecDepth 100000 in
theorem tw_567 : (Cond.code yX7_letter cX7_letter 3 (some .int)) ∈ lw_tbl := ch_3 _ (List.mem_of_getElem? (l := tables_1_3) (i := 21) rfl)
set_option maxRecDepth 100000 in
theorem tw_568 : (Cond.methodLink RL 70 yX7_like) ∈ lw_tbl := ch_3 _ (List.mem_of_getElem? (l := tables_1_3) (i := 22) rfl)
set_option maxRecDepth 100000 in
theorem tw_569 : (Cond.instanceMethod yX7_like) ∈ lw_tbl := ch_3 _ (List.mem_of_getElem? (l := tables_1_3) (i := 23) rfl)
set_option maxRecDepth 100000 in
theorem tw_570 : (Cond.selects RX7 yX7_like yX7_like) ∈ lw_tbl := ch_3 _ (List.mem_of_getElem? (l := tables_1_3) (i := 24) rfl)
set_option maxRecDepth 100000 in
theorem tw_571 : (Cond.code yX7_like cX7_like 4 (some .int)) ∈ lw_tbl := ch_3 _ (List.mem_of_getElem? (l := tables_1_3) (i := 25) rfl)
set_option maxRecDepth 100000 in
theorem tw_572 : (Cond.methodLink RX7 203 yX2_distance) ∈ lw_tbl := ch_3 _ (List.mem_of_getElem? (l := tables_1_3) (i := 26) rfl)
set_option maxRecDepth 100000 in
theorem tw_573 : (Cond.methodLink RX7 206 yX2_lips) ∈ lw_tbl := ch_3 _ (List.mem_of_getElem? (l := tables_1_3) (i := 27) rfl)
set_option maxRecDepth 100000 in
theorem tw_574 : (Cond.methodLink RL 74 yX7_guard) ∈ lw_tbl := ch_3 _ (List.mem_of_getElem? (l := tables_1_3) (i := 28) rfl)
set_option maxRecDepth 100000 in
theorem tw_575 : (Cond.instanceMethod yX7_guard) ∈ lw_tbl := ch_3 _ (List.mem_of_getElem? (l := tables_1_3) (i := 29) rfl)
set_option maxRecDepth 100000 in
theorem tw_576 : (Cond.selects RX7 yX7_guard yX7_guard) ∈ lw_tbl := ch_3 _ (List.mem_of_getElem? (l := tables_1_3) (i := 30) rfl)
set_option maxRecDepth 100000 in
theorem tw_577 : (Cond.code yX7_guard cX7_guard 3 (some .int)) ∈ lw_tbl := ch_3 _ (List.mem_of_getElem? (l := tables_1_3) (i := 31) rfl)
set_option maxRecDepth 100000 in
theorem tw_578 : (Cond.methodLink RX7 215 yX2_hoursOf) ∈ lw_tbl := ch_3 _ (List.mem_of_getElem? (l := tables_1_3) (i := 32) rfl)
set_option maxRecDepth 100000 in
theorem tw_579 : (Cond.instanceMethod yX2_hoursOf) ∈ lw_tbl := ch_3 _ (List.mem_of_getElem? (l := tables_1_3) (i := 33) rfl)
set_option maxRecDepth 100000 in
theorem tw_580 : (Cond.selects RX2 yX2_hoursOf yX2_hoursOf) ∈ lw_tbl := ch_3 _ (List.mem_of_getElem? (l := tables_1_3) (i := 34) rfl)
set_option maxRecDepth 100000 in
theorem tw_581 : (Cond.code yX2_hoursOf cX2_hoursOf 4 (some .int)) ∈ lw_tbl := ch_3 _ (List.mem_of_getElem? (l := tables_1_3) (i := 35) rfl)
set_option maxRecDepth 100000 in
theorem tw_583 : (Cond.methodLink RL 78 yX7_tried) ∈ lw_tbl := ch_3 _ (List.mem_of_getElem? (l := tables_1_3) (i := 37) rfl)
set_option maxRecDepth 100000 in
theorem tw_584 : (Cond.instanceMethod yX7_tried) ∈ lw_tbl := ch_3 _ (List.mem_of_getElem? (l := tables_1_3) (i := 38) rfl)
set_option maxRecDepth 100000 in
theorem tw_585 : (Cond.selects RX7 yX7_tried yX7_tried) ∈ lw_tbl := ch_3 _ (List.mem_of_getElem? (l := tables_1_3) (i := 39) rfl)
set_option maxRecDepth 100000 in
theorem tw_586 : (Cond.code yX7_tried cX7_tried 3 (some .int)) ∈ lw_tbl := ch_3 _ (List.mem_of_getElem? (l := tables_1_3) (i := 40) rfl)
set_option maxRecDepth 100000 in
theorem tw_587 : (Cond.methodLink RL 82 yX7_secret) ∈ lw_tbl := ch_3 _ (List.mem_of_getElem? (l := tables_1_3) (i := 41) rfl)
set_option maxRecDepth 100000 in
theorem tw_588 : (Cond.instanceMethod yX7_secret) ∈ lw_tbl := ch_3 _ (List.mem_of_getElem? (l := tables_1_3) (i := 42) rfl)
set_option maxRecDepth 100000 in
theorem tw_589 : (Cond.selects RX7 yX7_secret yX7_secret) ∈ lw_tbl := ch_3 _ (List.mem_of_getElem? (l := tables_1_3) (i := 43) rfl)
set_option maxRecDepth 100000 in
theorem tw_590 : (Cond.code yX7_secret cX7_secret 2 (some .int)) ∈ lw_tbl := ch_3 _ (List.mem_of_getElem? (l := tables_1_3) (i := 44) rfl)
set_option maxRecDepth 100000 in
theorem tw_591 : (Cond.methodLink RX7 227 yX7_isAhead) ∈ lw_tbl := ch_3 _ (List.mem_of_getElem? (l := tables_1_3) (i := 45) rfl)
set_option maxRecDepth 100000 in
theorem tw_593 : (Cond.instanceMethod yX7_isAhead) ∈ lw_tbl := ch_3 _ (List.mem_of_getElem? (l := tables_1_3) (i := 47) rfl)
set_option maxRecDepth 100000 in
theorem tw_594 : (Cond.code yX7_isAhead cX7_isAhead 2 (some .boolean)) ∈ lw_tbl := ch_3 _ (List.mem_of_getElem? (l := tables_1_3) (i := 48) rfl)
set_option maxRecDepth 100000 in
theorem tw_595 : (Cond.methodLink RL 86 yX7_taken) ∈ lw_tbl := ch_3 _ (List.mem_of_getElem? (l := tables_1_3) (i := 49) rfl)
set_option maxRecDepth 100000 in
theorem tw_596 : (Cond.instanceMethod yX7_taken) ∈ lw_tbl := ch_3 _ (List.mem_of_getElem? (l := tables_1_3) (i := 50) rfl)
set_option maxRecDepth 100000 in
theorem tw_597 : (Cond.selects RX7 yX7_taken yX7_taken) ∈ lw_tbl := ch_3 _ (List.mem_of_getElem? (l := tables_1_3) (i := 51) rfl)
set_option maxRecDepth 100000 in
theorem tw_598 : (Cond.code yX7_taken cX7_taken 4 (some .int)) ∈ lw_tbl := ch_3 _ (List.mem_of_getElem? (l := tables_1_3) (i := 52) rfl)
set_option maxRecDepth 100000 in
theorem tw_599 : (Cond.methodLink RL 90 yX7_safe) ∈ lw_tbl := ch_3 _ (List.mem_of_getElem? (l := tables_1_3) (i := 53) rfl)
set_option maxRecDepth 100000 in
theorem tw_600 : (Cond.instanceMethod yX7_safe) ∈ lw_tbl := ch_3 _ (List.mem_of_getElem? (l := tables_1_3) (i := 54) rfl)
set_option maxRecDepth 100000 in
theorem tw_601 : (Cond.selects RX7 yX7_safe yX7_safe) ∈ lw_tbl := ch_3 _ (List.mem_of_getElem? (l := tables_1_3) (i := 55) rfl)
set_option maxRecDepth 100000 in
theorem tw_602 : (Cond.code yX7_safe cX7_safe 3 (some .int)) ∈ lw_tbl := ch_3 _ (List.mem_of_getElem? (l := tables_1_3) (i := 56) rfl)
set_option maxRecDepth 100000 in
theorem tw_603 : (Cond.methodLink RX7 230 yX2_wordsIn) ∈ lw_tbl := ch_3 _ (List.mem_of_getElem? (l := tables_1_3) (i := 57) rfl)
set_option maxRecDepth 100000 in
theorem tw_604 : (Cond.instanceMethod yX2_wordsIn) ∈ lw_tbl := ch_3 _ (List.mem_of_getElem? (l := tables_1_3) (i := 58) rfl)
set_option maxRecDepth 100000 in
theorem tw_605 : (Cond.selects RX2 yX2_wordsIn yX2_wordsIn) ∈ lw_tbl := ch_3 _ (List.mem_of_getElem? (l := tables_1_3) (i := 59) rfl)
set_option maxRecDepth 100000 in
theorem tw_606 : (Cond.code yX2_wordsIn cX2_wordsIn 5 (some .int)) ∈ lw_tbl := ch_3 _ (List.mem_of_getElem? (l := tables_1_3) (i := 60) rfl)
set_option maxRecDepth 100000 in
theorem tw_607 : (Cond.methodLink RX2 96 yX2_catches) ∈ lw_tbl := ch_3 _ (List.mem_of_getElem? (l := tables_1_3) (i := 61) rfl)
set_option maxRecDepth 100000 in
theorem tw_608 : (Cond.methodLink RL 94 yX7_open) ∈ lw_tbl := ch_3 _ (List.mem_of_getElem? (l := tables_1_3) (i := 62) rfl)
set_option maxRecDepth 100000 in
theorem tw_609 : (Cond.instanceMethod yX7_open) ∈ lw_tbl := ch_3 _ (List.mem_of_getElem? (l := tables_1_3) (i := 63) rfl)
set_option maxRecDepth 100000 in
theorem tw_610 : (Cond.selects RX7 yX7_open yX7_open) ∈ lw_tbl := ch_3 _ (List.mem_of_getElem? (l := tables_1_3) (i := 64) rfl)
set_option maxRecDepth 100000 in
theorem tw_611 : (Cond.code yX7_open cX7_open 3 (some .int)) ∈ lw_tbl := ch_3 _ (List.mem_of_getElem? (l := tables_1_3) (i := 65) rfl)
set_option maxRecDepth 100000 in
theorem tw_612 : (Cond.methodLink RX7 233 yX7_areWords) ∈ lw_tbl := ch_3 _ (List.mem_of_getElem? (l := tables_1_3) (i := 66) rfl)
set_option maxRecDepth 100000 in
theorem tw_614 : (Cond.instanceMethod yX7_areWords) ∈ lw_tbl := ch_3 _ (List.mem_of_getElem? (l := tables_1_3) (i := 68) rfl)
set_option maxRecDepth 100000 in
theorem tw_615 : (Cond.code yX7_areWords cX7_areWords 2 (some .boolean)) ∈ lw_tbl := ch_3 _ (List.mem_of_getElem? (l := tables_1_3) (i := 69) rfl)
set_option maxRecDepth 100000 in
theorem tw_616 : (Cond.methodLink RX7 236 yX2_hoursOpen) ∈ lw_tbl := ch_3 _ (List.mem_of_getElem? (l := tables_1_3) (i := 70) rfl)
set_option maxRecDepth 100000 in
theorem tw_617 : (Cond.instanceMethod yX2_hoursOpen) ∈ lw_tbl := ch_3 _ (List.mem_of_getElem? (l := tables_1_3) (i := 71) rfl)
set_option maxRecDepth 100000 in
theorem tw_618 : (Cond.selects RX2 yX2_hoursOpen yX2_hoursOpen) ∈ lw_tbl := ch_3 _ (List.mem_of_getElem? (l := tables_1_3) (i := 72) rfl)
set_option maxRecDepth 100000 in
theorem tw_619 : (Cond.code yX2_hoursOpen cX2_hoursOpen 5 (some .int)) ∈ lw_tbl := ch_3 _ (List.mem_of_getElem? (l := tables_1_3) (i := 73) rfl)
set_option maxRecDepth 100000 in
theorem tw_620 : (Cond.methodLink RX2 100 yX2_wordsIn) ∈ lw_tbl := ch_3 _ (List.mem_of_getElem? (l := tables_1_3) (i := 74) rfl)
set_option maxRecDepth 100000 in
theorem tw_621 : (Cond.methodLink RL 98 yX7_next) ∈ lw_tbl := ch_3 _ (List.mem_of_getElem? (l := tables_1_3) (i := 75) rfl)
set_option maxRecDepth 100000 in
theorem tw_622 : (Cond.instanceMethod yX7_next) ∈ lw_tbl := ch_3 _ (List.mem_of_getElem? (l := tables_1_3) (i := 76) rfl)
set_option maxRecDepth 100000 in
theorem tw_623 : (Cond.selects RX7 yX7_next yX7_next) ∈ lw_tbl := ch_3 _ (List.mem_of_getElem? (l := tables_1_3) (i := 77) rfl)
set_option maxRecDepth 100000 in
theorem tw_624 : (Cond.code yX7_next cX7_next 2 (some .int)) ∈ lw_tbl := ch_3 _ (List.mem_of_getElem? (l := tables_1_3) (i := 78) rfl)
set_option maxRecDepth 100000 in
theorem tw_625 : (Cond.methodLink RX7 239 yX2_nightsUntil) ∈ lw_tbl := ch_3 _ (List.mem_of_getElem? (l := tables_1_3) (i := 79) rfl)
set_option maxRecDepth 100000 in
theorem tw_626 : (Cond.instanceMethod yX2_nightsUntil) ∈ lw_tbl := ch_3 _ (List.mem_of_getElem? (l := tables_1_3) (i := 80) rfl)
set_option maxRecDepth 100000 in
theorem tw_627 : (Cond.selects RX2 yX2_nightsUntil yX2_nightsUntil) ∈ lw_tbl := ch_3 _ (List.mem_of_getElem? (l := tables_1_3) (i := 81) rfl)
set_option maxRecDepth 100000 in
theorem tw_628 : (Cond.code yX2_nightsUntil cX2_nightsUntil 3 (some .int)) ∈ lw_tbl := ch_3 _ (List.mem_of_getElem? (l := tables_1_3) (i := 82) rfl)
set_option maxRecDepth 100000 in
theorem tw_629 : (Cond.constant RX2 103 (-1000000)) ∈ lw_tbl := ch_3 _ (List.mem_of_getElem? (l := tables_1_3) (i := 83) rfl)
set_option maxRecDepth 100000 in
theorem tw_630 : (Cond.methodLink RL 102 yX7_agree) ∈ lw_tbl := ch_3 _ (List.mem_of_getElem? (l := tables_1_3) (i := 84) rfl)
set_option maxRecDepth 100000 in
theorem tw_631 : (Cond.instanceMethod yX7_agree) ∈ lw_tbl := ch_3 _ (List.mem_of_getElem? (l := tables_1_3) (i := 85) rfl)
set_option maxRecDepth 100000 in
theorem tw_632 : (Cond.selects RX7 yX7_agree yX7_agree) ∈ lw_tbl := ch_3 _ (List.mem_of_getElem? (l := tables_1_3) (i := 86) rfl)
set_option maxRecDepth 100000 in
theorem tw_633 : (Cond.code yX7_agree cX7_agree 1 (some .int)) ∈ lw_tbl := ch_3 _ (List.mem_of_getElem? (l := tables_1_3) (i := 87) rfl)
set_option maxRecDepth 100000 in
theorem tw_634 : (Cond.methodLink RX7 242 yX3_agreeing) ∈ lw_tbl := ch_3 _ (List.mem_of_getElem? (l := tables_1_3) (i := 88) rfl)
set_option maxRecDepth 100000 in
theorem tw_635 : (Cond.static yX3_agreeing) ∈ lw_tbl := ch_3 _ (List.mem_of_getElem? (l := tables_1_3) (i := 89) rfl)
set_option maxRecDepth 100000 in
theorem tw_636 : (Cond.code yX3_agreeing cX3_agreeing 3 (some .int)) ∈ lw_tbl := ch_3 _ (List.mem_of_getElem? (l := tables_1_3) (i := 90) rfl)
set_option maxRecDepth 100000 in
theorem tw_637 : (Cond.methodLink RX3 24 yX3_agreesWithTries) ∈ lw_tbl := ch_3 _ (List.mem_of_getElem? (l := tables_1_3) (i := 91) rfl)
set_option maxRecDepth 100000 in
theorem tw_638 : (Cond.static yX3_agreesWithTries) ∈ lw_tbl := ch_3 _ (List.mem_of_getElem? (l := tables_1_3) (i := 92) rfl)
set_option maxRecDepth 100000 in
theorem tw_639 : (Cond.code yX3_agreesWithTries cX3_agreesWithTries 6 (some .boolean)) ∈ lw_tbl := ch_3 _ (List.mem_of_getElem? (l := tables_1_3) (i := 93) rfl)
set_option maxRecDepth 100000 in
theorem tw_640 : (Cond.methodLink RX3 56 yX2_wouldTake) ∈ lw_tbl := ch_3 _ (List.mem_of_getElem? (l := tables_1_3) (i := 94) rfl)
set_option maxRecDepth 100000 in
theorem tw_642 : (Cond.methodLink RL 106 yX7_man) ∈ lw_tbl := ch_3 _ (List.mem_of_getElem? (l := tables_1_3) (i := 96) rfl)
set_option maxRecDepth 100000 in
theorem tw_643 : (Cond.instanceMethod yX7_man) ∈ lw_tbl := ch_3 _ (List.mem_of_getElem? (l := tables_1_3) (i := 97) rfl)
set_option maxRecDepth 100000 in
theorem tw_644 : (Cond.selects RX7 yX7_man yX7_man) ∈ lw_tbl := ch_3 _ (List.mem_of_getElem? (l := tables_1_3) (i := 98) rfl)
set_option maxRecDepth 100000 in
theorem tw_645 : (Cond.code yX7_man cX7_man 4 (some .int)) ∈ lw_tbl := ch_3 _ (List.mem_of_getElem? (l := tables_1_3) (i := 99) rfl)
set_option maxRecDepth 100000 in
theorem tw_646 : (Cond.methodLink RX7 246 yX3_bestTry) ∈ lw_tbl := ch_3 _ (List.mem_of_getElem? (l := tables_1_3) (i := 100) rfl)
set_option maxRecDepth 100000 in
theorem tw_647 : (Cond.static yX3_bestTry) ∈ lw_tbl := ch_3 _ (List.mem_of_getElem? (l := tables_1_3) (i := 101) rfl)
set_option maxRecDepth 100000 in
theorem tw_648 : (Cond.code yX3_bestTry cX3_bestTry 6 (some .int)) ∈ lw_tbl := ch_3 _ (List.mem_of_getElem? (l := tables_1_3) (i := 102) rfl)
set_option maxRecDepth 100000 in
theorem tw_649 : (Cond.methodLink RX3 82 yX3_leftAtWorst) ∈ lw_tbl := ch_3 _ (List.mem_of_getElem? (l := tables_1_3) (i := 103) rfl)
set_option maxRecDepth 100000 in
theorem tw_650 : (Cond.static yX3_leftAtWorst) ∈ lw_tbl := ch_3 _ (List.mem_of_getElem? (l := tables_1_3) (i := 104) rfl)
set_option maxRecDepth 100000 in
theorem tw_651 : (Cond.code yX3_leftAtWorst cX3_leftAtWorst 4 (some .int)) ∈ lw_tbl := ch_3 _ (List.mem_of_getElem? (l := tables_1_3) (i := 105) rfl)
set_option maxRecDepth 100000 in
theorem tw_652 : (Cond.methodLink RX3 66 yX3_secretsCatching) ∈ lw_tbl := ch_3 _ (List.mem_of_getElem? (l := tables_1_3) (i := 106) rfl)
set_option maxRecDepth 100000 in
theorem tw_653 : (Cond.static yX3_secretsCatching) ∈ lw_tbl := ch_3 _ (List.mem_of_getElem? (l := tables_1_3) (i := 107) rfl)
set_option maxRecDepth 100000 in
theorem tw_654 : (Cond.code yX3_secretsCatching cX3_secretsCatching 5 (some .int)) ∈ lw_tbl := ch_3 _ (List.mem_of_getElem? (l := tables_1_3) (i := 108) rfl)
set_option maxRecDepth 100000 in
theorem tw_655 : (Cond.methodLink RX3 63 yX2_catchesIf) ∈ lw_tbl := ch_3 _ (List.mem_of_getElem? (l := tables_1_3) (i := 109) rfl)
set_option maxRecDepth 100000 in
theorem tw_656 : (Cond.methodLink RX3 70 yJ6_bitCount_0f7a4) ∈ lw_tbl := ch_3 _ (List.mem_of_getElem? (l := tables_1_3) (i := 110) rfl)
set_option maxRecDepth 100000 in
theorem tw_657 : (Cond.static yJ6_bitCount_0f7a4) ∈ lw_tbl := ch_3 _ (List.mem_of_getElem? (l := tables_1_3) (i := 111) rfl)
set_option maxRecDepth 100000 in
theorem tw_658 : (Cond.code yJ6_bitCount_0f7a4 cJ6_bitCount_0f7a4 1 (some .int)) ∈ lw_tbl := ch_3 _ (List.mem_of_getElem? (l := tables_1_3) (i := 112) rfl)
set_option maxRecDepth 100000 in
theorem tw_659 : (Cond.constant RJ6 265 (1431655765)) ∈ lw_tbl := ch_3 _ (List.mem_of_getElem? (l := tables_1_3) (i := 113) rfl)
set_option maxRecDepth 100000 in
theorem tw_660 : (Cond.constant RJ6 266 (858993459)) ∈ lw_tbl := ch_3 _ (List.mem_of_getElem? (l := tables_1_3) (i := 114) rfl)
set_option maxRecDepth 100000 in
theorem tw_661 : (Cond.constant RJ6 267 (252645135)) ∈ lw_tbl := ch_3 _ (List.mem_of_getElem? (l := tables_1_3) (i := 115) rfl)
set_option maxRecDepth 100000 in
theorem tw_662 : (Cond.methodLink RX3 76 Lib.Math.max.name) ∈ lw_tbl := ch_3 _ (List.mem_of_getElem? (l := tables_1_3) (i := 116) rfl)
set_option maxRecDepth 100000 in
theorem tw_663 : (Cond.static Lib.Math.max.name) ∈ lw_tbl := ch_3 _ (List.mem_of_getElem? (l := tables_1_3) (i := 117) rfl)
set_option maxRecDepth 100000 in
theorem tw_664 : (Cond.code Lib.Math.max.name Lib.Math.max.code 2 (some .int)) ∈ lw_tbl := ch_3 _ (List.mem_of_getElem? (l := tables_1_3) (i := 118) rfl)
set_option maxRecDepth 100000 in
theorem tw_665 : (Cond.methodLink RX7 250 yX3_leftAtWorst) ∈ lw_tbl := ch_3 _ (List.mem_of_getElem? (l := tables_1_3) (i := 119) rfl)
set_option maxRecDepth 100000 in
theorem tw_666 : (Cond.methodLink RL 110 yX7_fewest) ∈ lw_tbl := ch_3 _ (List.mem_of_getElem? (l := tables_1_3) (i := 120) rfl)
set_option maxRecDepth 100000 in
theorem tw_667 : (Cond.instanceMethod yX7_fewest) ∈ lw_tbl := ch_3 _ (List.mem_of_getElem? (l := tables_1_3) (i := 121) rfl)
set_option maxRecDepth 100000 in
theorem tw_668 : (Cond.selects RX7 yX7_fewest yX7_fewest) ∈ lw_tbl := ch_3 _ (List.mem_of_getElem? (l := tables_1_3) (i := 122) rfl)
set_option maxRecDepth 100000 in
theorem tw_669 : (Cond.code yX7_fewest cX7_fewest 1 (some .int)) ∈ lw_tbl := ch_3 _ (List.mem_of_getElem? (l := tables_1_3) (i := 123) rfl)
set_option maxRecDepth 100000 in
theorem tw_670 : (Cond.methodLink RX7 254 yX3_fewestMen) ∈ lw_tbl := ch_3 _ (List.mem_of_getElem? (l := tables_1_3) (i := 124) rfl)
set_option maxRecDepth 100000 in
theorem tw_671 : (Cond.instanceMethod yX3_fewestMen) ∈ lw_tbl := ch_3 _ (List.mem_of_getElem? (l := tables_1_3) (i := 125) rfl)
set_option maxRecDepth 100000 in
theorem tw_672 : (Cond.selects RX3 yX3_fewestMen yX3_fewestMen) ∈ lw_tbl := ch_3 _ (List.mem_of_getElem? (l := tables_1_3) (i := 126) rfl)
set_option maxRecDepth 100000 in
theorem tw_673 : (Cond.code yX3_fewestMen cX3_fewestMen 5 (some .int)) ∈ lw_tbl := ch_3 _ (List.mem_of_getElem? (l := tables_1_3) (i := 127) rfl)
set_option maxRecDepth 100000 in
theorem tw_674 : (Cond.methodLink RX3 85 yX3_menToSplit) ∈ lw_tbl := ch_3 _ (List.mem_of_getElem? (l := tables_1_3) (i := 128) rfl)
set_option maxRecDepth 100000 in
theorem tw_676 : (Cond.instanceMethod yX3_menToSplit) ∈ lw_tbl := ch_3 _ (List.mem_of_getElem? (l := tables_1_3) (i := 130) rfl)
set_option maxRecDepth 100000 in
theorem tw_677 : (Cond.code yX3_menToSplit cX3_menToSplit 6 (some .int)) ∈ lw_tbl := ch_3 _ (List.mem_of_getElem? (l := tables_1_3) (i := 131) rfl)
set_option maxRecDepth 100000 in
theorem tw_678 : (Cond.methodLink RX3 89 Lib.Math.min.name) ∈ lw_tbl := ch_3 _ (List.mem_of_getElem? (l := tables_1_3) (i := 132) rfl)
set_option maxRecDepth 100000 in
theorem tw_679 : (Cond.constant RX3 88 (-1000000)) ∈ lw_tbl := ch_3 _ (List.mem_of_getElem? (l := tables_1_3) (i := 133) rfl)
set_option maxRecDepth 100000 in
theorem tw_680 : (Cond.methodLink RL 114 yX7_march) ∈ lw_tbl := ch_3 _ (List.mem_of_getElem? (l := tables_1_3) (i := 134) rfl)
set_option maxRecDepth 100000 in
theorem tw_681 : (Cond.instanceMethod yX7_march) ∈ lw_tbl := ch_3 _ (List.mem_of_getElem? (l := tables_1_3) (i := 135) rfl)
set_option maxRecDepth 100000 in
theorem tw_682 : (Cond.selects RX7 yX7_march yX7_march) ∈ lw_tbl := ch_3 _ (List.mem_of_getElem? (l := tables_1_3) (i := 136) rfl)
set_option maxRecDepth 100000 in
theorem tw_683 : (Cond.code yX7_march cX7_march 6 (some .int)) ∈ lw_tbl := ch_3 _ (List.mem_of_getElem? (l := tables_1_3) (i := 137) rfl)
set_option maxRecDepth 100000 in
theorem tw_684 : (Cond.methodLink RX7 257 yX7_hourOfLast) ∈ lw_tbl := ch_3 _ (List.mem_of_getElem? (l := tables_1_3) (i := 138) rfl)
set_option maxRecDepth 100000 in
theorem tw_686 : (Cond.instanceMethod yX7_hourOfLast) ∈ lw_tbl := ch_3 _ (List.mem_of_getElem? (l := tables_1_3) (i := 140) rfl)
set_option maxRecDepth 100000 in
theorem tw_687 : (Cond.code yX7_hourOfLast cX7_hourOfLast 7 (some .int)) ∈ lw_tbl := ch_3 _ (List.mem_of_getElem? (l := tables_1_3) (i := 141) rfl)
set_option maxRecDepth 100000 in
theorem tw_688 : (Cond.methodLink RX7 337 yX2_hourIn) ∈ lw_tbl := ch_3 _ (List.mem_of_getElem? (l := tables_1_3) (i := 142) rfl)
set_option maxRecDepth 100000 in
theorem tw_689 : (Cond.instanceMethod yX2_hourIn) ∈ lw_tbl := ch_3 _ (List.mem_of_getElem? (l := tables_1_3) (i := 143) rfl)
set_option maxRecDepth 100000 in
theorem tw_690 : (Cond.selects RX2 yX2_hourIn yX2_hourIn) ∈ lw_tbl := ch_3 _ (List.mem_of_getElem? (l := tables_1_3) (i := 144) rfl)
set_option maxRecDepth 100000 in
theorem tw_691 : (Cond.code yX2_hourIn cX2_hourIn 4 (some .int)) ∈ lw_tbl := ch_3 _ (List.mem_of_getElem? (l := tables_1_3) (i := 145) rfl)
set_option maxRecDepth 100000 in
theorem tw_692 : (Cond.methodLink RL 119 yX7_cheap) ∈ lw_tbl := ch_3 _ (List.mem_of_getElem? (l := tables_1_3) (i := 146) rfl)
set_option maxRecDepth 100000 in
theorem tw_693 : (Cond.instanceMethod yX7_cheap) ∈ lw_tbl := ch_3 _ (List.mem_of_getElem? (l := tables_1_3) (i := 147) rfl)
set_option maxRecDepth 100000 in
theorem tw_694 : (Cond.selects RX7 yX7_cheap yX7_cheap) ∈ lw_tbl := ch_3 _ (List.mem_of_getElem? (l := tables_1_3) (i := 148) rfl)
set_option maxRecDepth 100000 in
theorem tw_695 : (Cond.code yX7_cheap cX7_cheap 5 (some .int)) ∈ lw_tbl := ch_3 _ (List.mem_of_getElem? (l := tables_1_3) (i := 149) rfl)
set_option maxRecDepth 100000 in
theorem tw_696 : (Cond.methodLink RX7 261 yX2_guardsAgainst) ∈ lw_tbl := ch_3 _ (List.mem_of_getElem? (l := tables_1_3) (i := 150) rfl)
set_option maxRecDepth 100000 in
theorem tw_697 : (Cond.instanceMethod yX2_guardsAgainst) ∈ lw_tbl := ch_3 _ (List.mem_of_getElem? (l := tables_1_3) (i := 151) rfl)
set_option maxRecDepth 100000 in
theorem tw_698 : (Cond.selects RX2 yX2_guardsAgainst yX2_guardsAgainst) ∈ lw_tbl := ch_3 _ (List.mem_of_getElem? (l := tables_1_3) (i := 152) rfl)
set_option maxRecDepth 100000 in
theorem tw_699 : (Cond.code yX2_guardsAgainst cX2_guardsAgainst 5 (some .int)) ∈ lw_tbl := ch_3 _ (List.mem_of_getElem? (l := tables_1_3) (i := 153) rfl)
set_option maxRecDepth 100000 in
theorem tw_700 : (Cond.methodLink RX7 264 yX2_feeOf) ∈ lw_tbl := ch_3 _ (List.mem_of_getElem? (l := tables_1_3) (i := 154) rfl)
set_option maxRecDepth 100000 in
theorem tw_701 : (Cond.instanceMethod yX2_feeOf) ∈ lw_tbl := ch_3 _ (List.mem_of_getElem? (l := tables_1_3) (i := 155) rfl)
set_option maxRecDepth 100000 in
theorem tw_702 : (Cond.selects RX2 yX2_feeOf yX2_feeOf) ∈ lw_tbl := ch_3 _ (List.mem_of_getElem? (l := tables_1_3) (i := 156) rfl)
set_option maxRecDepth 100000 in
theorem tw_703 : (Cond.code yX2_feeOf cX2_feeOf 4 (some .int)) ∈ lw_tbl := ch_3 _ (List.mem_of_getElem? (l := tables_1_3) (i := 157) rfl)
set_option maxRecDepth 100000 in
theorem tw_704 : (Cond.methodLink RL 123 yX7_near) ∈ lw_tbl := ch_3 _ (List.mem_of_getElem? (l := tables_1_3) (i := 158) rfl)
set_option maxRecDepth 100000 in
theorem tw_705 : (Cond.instanceMethod yX7_near) ∈ lw_tbl := ch_3 _ (List.mem_of_getElem? (l := tables_1_3) (i := 159) rfl)
set_option maxRecDepth 100000 in
theorem tw_706 : (Cond.selects RX7 yX7_near yX7_near) ∈ lw_tbl := ch_3 _ (List.mem_of_getElem? (l := tables_1_3) (i := 160) rfl)
set_option maxRecDepth 100000 in
theorem tw_707 : (Cond.code yX7_near cX7_near 4 (some .int)) ∈ lw_tbl := ch_3 _ (List.mem_of_getElem? (l := tables_1_3) (i := 161) rfl)
set_option maxRecDepth 100000 in
theorem tw_708 : (Cond.methodLink RX7 267 yX2_nearestTo) ∈ lw_tbl := ch_3 _ (List.mem_of_getElem? (l := tables_1_3) (i := 162) rfl)
set_option maxRecDepth 100000 in
theorem tw_709 : (Cond.instanceMethod yX2_nearestTo) ∈ lw_tbl := ch_3 _ (List.mem_of_getElem? (l := tables_1_3) (i := 163) rfl)
set_option maxRecDepth 100000 in
theorem tw_710 : (Cond.selects RX2 yX2_nearestTo yX2_nearestTo) ∈ lw_tbl := ch_3 _ (List.mem_of_getElem? (l := tables_1_3) (i := 164) rfl)
set_option maxRecDepth 100000 in
theorem tw_711 : (Cond.code yX2_nearestTo cX2_nearestTo 5 (some .int)) ∈ lw_tbl := ch_3 _ (List.mem_of_getElem? (l := tables_1_3) (i := 165) rfl)
set_option maxRecDepth 100000 in
theorem tw_712 : (Cond.methodLink RL 127 yX7_rules) ∈ lw_tbl := ch_3 _ (List.mem_of_getElem? (l := tables_1_3) (i := 166) rfl)
set_option maxRecDepth 100000 in
theorem tw_713 : (Cond.instanceMethod yX7_rules) ∈ lw_tbl := ch_3 _ (List.mem_of_getElem? (l := tables_1_3) (i := 167) rfl)
set_option maxRecDepth 100000 in
theorem tw_714 : (Cond.selects RX7 yX7_rules yX7_rules) ∈ lw_tbl := ch_3 _ (List.mem_of_getElem? (l := tables_1_3) (i := 168) rfl)
set_option maxRecDepth 100000 in
theorem tw_715 : (Cond.code yX7_rules cX7_rules 6 (some .int)) ∈ lw_tbl := ch_3 _ (List.mem_of_getElem? (l := tables_1_3) (i := 169) rfl)
set_option maxRecDepth 100000 in
theorem tw_716 : (Cond.methodLink RX7 270 yX7_rulesThatTell) ∈ lw_tbl := ch_3 _ (List.mem_of_getElem? (l := tables_1_3) (i := 170) rfl)
set_option maxRecDepth 100000 in
theorem tw_718 : (Cond.instanceMethod yX7_rulesThatTell) ∈ lw_tbl := ch_3 _ (List.mem_of_getElem? (l := tables_1_3) (i := 172) rfl)
set_option maxRecDepth 100000 in
theorem tw_719 : (Cond.code yX7_rulesThatTell cX7_rulesThatTell 13 (some .int)) ∈ lw_tbl := ch_3 _ (List.mem_of_getElem? (l := tables_1_3) (i := 173) rfl)
set_option maxRecDepth 100000 in
theorem tw_720 : (Cond.methodLink RX7 346 yX2_secretBy) ∈ lw_tbl := ch_3 _ (List.mem_of_getElem? (l := tables_1_3) (i := 174) rfl)
set_option maxRecDepth 100000 in
theorem tw_721 : (Cond.methodLink RL 131 yX7_fits) ∈ lw_tbl := ch_3 _ (List.mem_of_getElem? (l := tables_1_3) (i := 175) rfl)
set_option maxRecDepth 100000 in
theorem tw_722 : (Cond.instanceMethod yX7_fits) ∈ lw_tbl := ch_3 _ (List.mem_of_getElem? (l := tables_1_3) (i := 176) rfl)
set_option maxRecDepth 100000 in
theorem tw_723 : (Cond.selects RX7 yX7_fits yX7_fits) ∈ lw_tbl := ch_3 _ (List.mem_of_getElem? (l := tables_1_3) (i := 177) rfl)
set_option maxRecDepth 100000 in
theorem tw_724 : (Cond.code yX7_fits cX7_fits 6 (some .int)) ∈ lw_tbl := ch_3 _ (List.mem_of_getElem? (l := tables_1_3) (i := 178) rfl)
set_option maxRecDepth 100000 in
theorem tw_725 : (Cond.methodLink RX7 274 yX7_kindsThatFit) ∈ lw_tbl := ch_3 _ (List.mem_of_getElem? (l := tables_1_3) (i := 179) rfl)
set_option maxRecDepth 100000 in
theorem tw_727 : (Cond.instanceMethod yX7_kindsThatFit) ∈ lw_tbl := ch_3 _ (List.mem_of_getElem? (l := tables_1_3) (i := 181) rfl)
set_option maxRecDepth 100000 in
theorem tw_728 : (Cond.code yX7_kindsThatFit cX7_kindsThatFit 6 (some .int)) ∈ lw_tbl := ch_3 _ (List.mem_of_getElem? (l := tables_1_3) (i := 182) rfl)
set_option maxRecDepth 100000 in
theorem tw_729 : (Cond.methodLink RX7 350 yX7_fitsTold) ∈ lw_tbl := ch_3 _ (List.mem_of_getElem? (l := tables_1_3) (i := 183) rfl)
set_option maxRecDepth 100000 in
theorem tw_731 : (Cond.instanceMethod yX7_fitsTold) ∈ lw_tbl := ch_3 _ (List.mem_of_getElem? (l := tables_1_3) (i := 185) rfl)
set_option maxRecDepth 100000 in
theorem tw_732 : (Cond.code yX7_fitsTold cX7_fitsTold 6 (some .boolean)) ∈ lw_tbl := ch_3 _ (List.mem_of_getElem? (l := tables_1_3) (i := 186) rfl)
set_option maxRecDepth 100000 in
theorem tw_733 : (Cond.methodLink RX7 354 yX2_wouldTake) ∈ lw_tbl := ch_3 _ (List.mem_of_getElem? (l := tables_1_3) (i := 187) rfl)
set_option maxRecDepth 100000 in
theorem tw_734 : (Cond.methodLink RX7 281 yX7_secretsThatFit) ∈ lw_tbl := ch_3 _ (List.mem_of_getElem? (l := tables_1_3) (i := 188) rfl)
set_option maxRecDepth 100000 in
theorem tw_736 : (Cond.instanceMethod yX7_secretsThatFit) ∈ lw_tbl := ch_3 _ (List.mem_of_getElem? (l := tables_1_3) (i := 190) rfl)
set_option maxRecDepth 100000 in
theorem tw_737 : (Cond.code yX7_secretsThatFit cX7_secretsThatFit 6 (some .int)) ∈ lw_tbl := ch_3 _ (List.mem_of_getElem? (l := tables_1_3) (i := 191) rfl)
set_option maxRecDepth 100000 in
theorem tw_738 : (Cond.methodLink RL 135 yX7_sure) ∈ lw_tbl := ch_3 _ (List.mem_of_getElem? (l := tables_1_3) (i := 192) rfl)
set_option maxRecDepth 100000 in
theorem tw_739 : (Cond.instanceMethod yX7_sure) ∈ lw_tbl := ch_3 _ (List.mem_of_getElem? (l := tables_1_3) (i := 193) rfl)
set_option maxRecDepth 100000 in
theorem tw_740 : (Cond.selects RX7 yX7_sure yX7_sure) ∈ lw_tbl := ch_3 _ (List.mem_of_getElem? (l := tables_1_3) (i := 194) rfl)
set_option maxRecDepth 100000 in
theorem tw_741 : (Cond.code yX7_sure cX7_sure 10 (some .int)) ∈ lw_tbl := ch_3 _ (List.mem_of_getElem? (l := tables_1_3) (i := 195) rfl)
set_option maxRecDepth 100000 in
theorem tw_742 : (Cond.methodLink RX7 285 yJ6_bitCount_0f7a4) ∈ lw_tbl := ch_3 _ (List.mem_of_getElem? (l := tables_1_3) (i := 196) rfl)
set_option maxRecDepth 100000 in
theorem tw_743 : (Cond.methodLink RX7 290 yX3_secretsCatching) ∈ lw_tbl := ch_3 _ (List.mem_of_getElem? (l := tables_1_3) (i := 197) rfl)
set_option maxRecDepth 100000 in
theorem tw_744 : (Cond.methodLink RX7 293 yX7_commonDivisor) ∈ lw_tbl := ch_3 _ (List.mem_of_getElem? (l := tables_1_3) (i := 198) rfl)
set_option maxRecDepth 100000 in
theorem tw_745 : (Cond.static yX7_commonDivisor) ∈ lw_tbl := ch_3 _ (List.mem_of_getElem? (l := tables_1_3) (i := 199) rfl)
set_option maxRecDepth 100000 in
theorem tw_746 : (Cond.code yX7_commonDivisor cX7_commonDivisor 3 (some .int)) ∈ lw_tbl := ch_3 _ (List.mem_of_getElem? (l := tables_1_3) (i := 200) rfl)
set_option maxRecDepth 100000 in
theorem tw_747 : (Cond.methodLink RX7 296 yX7_lowest) ∈ lw_tbl := ch_3 _ (List.mem_of_getElem? (l := tables_1_3) (i := 201) rfl)
set_option maxRecDepth 100000 in
theorem tw_748 : (Cond.static yX7_lowest) ∈ lw_tbl := ch_3 _ (List.mem_of_getElem? (l := tables_1_3) (i := 202) rfl)
set_option maxRecDepth 100000 in
theorem tw_749 : (Cond.code yX7_lowest cX7_lowest 2 (some .int)) ∈ lw_tbl := ch_3 _ (List.mem_of_getElem? (l := tables_1_3) (i := 203) rfl)
set_option maxRecDepth 100000 in
theorem tw_750 : (Cond.methodLink RL 139 yX7_drawn) ∈ lw_tbl := ch_3 _ (List.mem_of_getElem? (l := tables_1_3) (i := 204) rfl)
set_option maxRecDepth 100000 in
theorem tw_751 : (Cond.instanceMethod yX7_drawn) ∈ lw_tbl := ch_3 _ (List.mem_of_getElem? (l := tables_1_3) (i := 205) rfl)
set_option maxRecDepth 100000 in
theorem tw_752 : (Cond.selects RX7 yX7_drawn yX7_drawn) ∈ lw_tbl := ch_3 _ (List.mem_of_getElem? (l := tables_1_3) (i := 206) rfl)
set_option maxRecDepth 100000 in
theorem tw_753 : (Cond.code yX7_drawn cX7_drawn 10 (some .int)) ∈ lw_tbl := ch_3 _ (List.mem_of_getElem? (l := tables_1_3) (i := 207) rfl)
set_option maxRecDepth 100000 in
theorem tw_754 : (Cond.constant RX7 299 (999999)) ∈ lw_tbl := ch_3 _ (List.mem_of_getElem? (l := tables_1_3) (i := 208) rfl)
set_option maxRecDepth 100000 in
theorem tw_755 : (Cond.constantLong RX7 300 (16807)) ∈ lw_tbl := ch_3 _ (List.mem_of_getElem? (l := tables_1_3) (i := 209) rfl)
set_option maxRecDepth 100000 in
theorem tw_756 : (Cond.constantLong RX7 302 (2147483647)) ∈ lw_tbl := ch_3 _ (List.mem_of_getElem? (l := tables_1_3) (i := 210) rfl)
set_option maxRecDepth 100000 in
theorem tw_757 : (Cond.methodLink RX7 304 yX7_rest) ∈ lw_tbl := ch_3 _ (List.mem_of_getElem? (l := tables_1_3) (i := 211) rfl)
set_option maxRecDepth 100000 in
theorem tw_758 : (Cond.methodLink RL 143 yX7_image) ∈ lw_tbl := ch_3 _ (List.mem_of_getElem? (l := tables_1_3) (i := 212) rfl)
set_option maxRecDepth 100000 in
theorem tw_759 : (Cond.instanceMethod yX7_image) ∈ lw_tbl := ch_3 _ (List.mem_of_getElem? (l := tables_1_3) (i := 213) rfl)
set_option maxRecDepth 100000 in
theorem tw_760 : (Cond.selects RX7 yX7_image yX7_image) ∈ lw_tbl := ch_3 _ (List.mem_of_getElem? (l := tables_1_3) (i := 214) rfl)
set_option maxRecDepth 100000 in
theorem tw_761 : (Cond.code yX7_image cX7_image 2 (some .int)) ∈ lw_tbl := ch_3 _ (List.mem_of_getElem? (l := tables_1_3) (i := 215) rfl)
set_option maxRecDepth 100000 in
theorem tw_762 : (Cond.methodLink RL 147 yX7_restore) ∈ lw_tbl := ch_3 _ (List.mem_of_getElem? (l := tables_1_3) (i := 216) rfl)
set_option maxRecDepth 100000 in
theorem tw_763 : (Cond.instanceMethod yX7_restore) ∈ lw_tbl := ch_3 _ (List.mem_of_getElem? (l := tables_1_3) (i := 217) rfl)
set_option maxRecDepth 100000 in
theorem tw_764 : (Cond.selects RX7 yX7_restore yX7_restore) ∈ lw_tbl := ch_3 _ (List.mem_of_getElem? (l := tables_1_3) (i := 218) rfl)
set_option maxRecDepth 100000 in
theorem tw_765 : (Cond.code yX7_restore cX7_restore 2 (some .int)) ∈ lw_tbl := ch_3 _ (List.mem_of_getElem? (l := tables_1_3) (i := 219) rfl)
set_option maxRecDepth 100000 in
theorem tw_766 : (Cond.methodLink RL 151 yX7_kind) ∈ lw_tbl := ch_3 _ (List.mem_of_getElem? (l := tables_1_3) (i := 220) rfl)
set_option maxRecDepth 100000 in
theorem tw_767 : (Cond.instanceMethod yX7_kind) ∈ lw_tbl := ch_3 _ (List.mem_of_getElem? (l := tables_1_3) (i := 221) rfl)
set_option maxRecDepth 100000 in
theorem tw_768 : (Cond.selects RX7 yX7_kind yX7_kind) ∈ lw_tbl := ch_3 _ (List.mem_of_getElem? (l := tables_1_3) (i := 222) rfl)
set_option maxRecDepth 100000 in
theorem tw_769 : (Cond.code yX7_kind cX7_kind 2 (some .int)) ∈ lw_tbl := ch_3 _ (List.mem_of_getElem? (l := tables_1_3) (i := 223) rfl)
set_option maxRecDepth 100000 in
theorem tw_770 : (Cond.methodLink RL 155 yX7_as) ∈ lw_tbl := ch_3 _ (List.mem_of_getElem? (l := tables_1_3) (i := 224) rfl)
set_option maxRecDepth 100000 in
theorem tw_771 : (Cond.instanceMethod yX7_as) ∈ lw_tbl := ch_3 _ (List.mem_of_getElem? (l := tables_1_3) (i := 225) rfl)
set_option maxRecDepth 100000 in
theorem tw_772 : (Cond.selects RX7 yX7_as yX7_as) ∈ lw_tbl := ch_3 _ (List.mem_of_getElem? (l := tables_1_3) (i := 226) rfl)
set_option maxRecDepth 100000 in
theorem tw_773 : (Cond.code yX7_as cX7_as 3 (some .int)) ∈ lw_tbl := ch_3 _ (List.mem_of_getElem? (l := tables_1_3) (i := 227) rfl)
set_option maxRecDepth 100000 in
theorem tw_774 : (Cond.methodLink RX7 307 yX1_isA) ∈ lw_tbl := ch_3 _ (List.mem_of_getElem? (l := tables_1_3) (i := 228) rfl)
set_option maxRecDepth 100000 in
theorem tw_775 : (Cond.static yX1_isA) ∈ lw_tbl := ch_3 _ (List.mem_of_getElem? (l := tables_1_3) (i := 229) rfl)
set_option maxRecDepth 100000 in
theorem tw_776 : (Cond.code yX1_isA cX1_isA 4 (some .boolean)) ∈ lw_tbl := ch_3 _ (List.mem_of_getElem? (l := tables_1_3) (i := 230) rfl)
set_option maxRecDepth 100000 in
theorem tw_777 : (Cond.fieldLink RX1 15 "WrongWord$Asks" "NEAREST_ABOVE" "[I") ∈ lw_tbl := ch_3 _ (List.mem_of_getElem? (l := tables_1_3) (i := 231) rfl)
set_option maxRecDepth 100000 in
theorem tw_779 : (Cond.methodLink RL 159 yX7_ask) ∈ lw_tbl := ch_3 _ (List.mem_of_getElem? (l := tables_1_3) (i := 233) rfl)
set_option maxRecDepth 100000 in
theorem tw_780 : (Cond.instanceMethod yX7_ask) ∈ lw_tbl := ch_3 _ (List.mem_of_getElem? (l := tables_1_3) (i := 234) rfl)
set_option maxRecDepth 100000 in
theorem tw_781 : (Cond.selects RX7 yX7_ask yX7_ask) ∈ lw_tbl := ch_3 _ (List.mem_of_getElem? (l := tables_1_3) (i := 235) rfl)
set_option maxRecDepth 100000 in
theorem tw_782 : (Cond.code yX7_ask cX7_ask 3 (some .int)) ∈ lw_tbl := ch_3 _ (List.mem_of_getElem? (l := tables_1_3) (i := 236) rfl)
set_option maxRecDepth 100000 in
theorem tw_783 : (Cond.methodLink RX7 310 yX1_turnTo) ∈ lw_tbl := ch_3 _ (List.mem_of_getElem? (l := tables_1_3) (i := 237) rfl)
set_option maxRecDepth 100000 in
theorem tw_784 : (Cond.instanceMethod yX1_turnTo) ∈ lw_tbl := ch_3 _ (List.mem_of_getElem? (l := tables_1_3) (i := 238) rfl)
set_option maxRecDepth 100000 in
theorem tw_785 : (Cond.selects RX1 yX1_turnTo yX1_turnTo) ∈ lw_tbl := ch_3 _ (List.mem_of_getElem? (l := tables_1_3) (i := 239) rfl)
set_option maxRecDepth 100000 in
theorem tw_786 : (Cond.code yX1_turnTo cX1_turnTo 5 none) ∈ lw_tbl := ch_4 _ (List.mem_of_getElem? (l := tables_1_4) (i := 0) rfl)
set_option maxRecDepth 100000 in
theorem tw_787 : (Cond.methodLink RX7 314 yX1_answer) ∈ lw_tbl := ch_4 _ (List.mem_of_getElem? (l := tables_1_4) (i := 1) rfl)
set_option maxRecDepth 100000 in
theorem tw_788 : (Cond.instanceMethod yX1_answer) ∈ lw_tbl := ch_4 _ (List.mem_of_getElem? (l := tables_1_4) (i := 2) rfl)
set_option maxRecDepth 100000 in
theorem tw_789 : (Cond.selects RX1 yX1_answer yX1_answer) ∈ lw_tbl := ch_4 _ (List.mem_of_getElem? (l := tables_1_4) (i := 3) rfl)
set_option maxRecDepth 100000 in
theorem tw_790 : (Cond.code yX1_answer cX1_answer 2 (some .int)) ∈ lw_tbl := ch_4 _ (List.mem_of_getElem? (l := tables_1_4) (i := 4) rfl)
set_option maxRecDepth 100000 in
theorem tw_791 : (Cond.methodLink RX1 34 yX1_sizeBody) ∈ lw_tbl := ch_4 _ (List.mem_of_getElem? (l := tables_1_4) (i := 5) rfl)
set_option maxRecDepth 100000 in
theorem tw_793 : (Cond.instanceMethod yX1_sizeBody) ∈ lw_tbl := ch_4 _ (List.mem_of_getElem? (l := tables_1_4) (i := 7) rfl)
set_option maxRecDepth 100000 in
theorem tw_794 : (Cond.code yX1_sizeBody cX1_sizeBody 1 (some .int)) ∈ lw_tbl := ch_4 _ (List.mem_of_getElem? (l := tables_1_4) (i := 8) rfl)
set_option maxRecDepth 100000 in
theorem tw_795 : (Cond.fieldLink RX1 45 "WrongWord$Asks" "SIZE_BODY" "[I") ∈ lw_tbl := ch_4 _ (List.mem_of_getElem? (l := tables_1_4) (i := 9) rfl)
set_option maxRecDepth 100000 in
theorem tw_797 : (Cond.methodLink RX1 38 yX1_markBody) ∈ lw_tbl := ch_4 _ (List.mem_of_getElem? (l := tables_1_4) (i := 11) rfl)
set_option maxRecDepth 100000 in
theorem tw_799 : (Cond.instanceMethod yX1_markBody) ∈ lw_tbl := ch_4 _ (List.mem_of_getElem? (l := tables_1_4) (i := 13) rfl)
set_option maxRecDepth 100000 in
theorem tw_800 : (Cond.code yX1_markBody cX1_markBody 1 (some .int)) ∈ lw_tbl := ch_4 _ (List.mem_of_getElem? (l := tables_1_4) (i := 14) rfl)
set_option maxRecDepth 100000 in
theorem tw_801 : (Cond.fieldLink RX1 48 "WrongWord$Asks" "MARK_BODY" "[I") ∈ lw_tbl := ch_4 _ (List.mem_of_getElem? (l := tables_1_4) (i := 15) rfl)
set_option maxRecDepth 100000 in
theorem tw_803 : (Cond.methodLink RX1 41 yX1_given) ∈ lw_tbl := ch_4 _ (List.mem_of_getElem? (l := tables_1_4) (i := 17) rfl)
set_option maxRecDepth 100000 in
theorem tw_804 : (Cond.static yX1_given) ∈ lw_tbl := ch_4 _ (List.mem_of_getElem? (l := tables_1_4) (i := 18) rfl)
set_option maxRecDepth 100000 in
theorem tw_805 : (Cond.code yX1_given cX1_given 4 (some .int)) ∈ lw_tbl := ch_4 _ (List.mem_of_getElem? (l := tables_1_4) (i := 19) rfl)
set_option maxRecDepth 100000 in
theorem tw_806 : (Cond.methodLink RX1 51 yX1_leave) ∈ lw_tbl := ch_4 _ (List.mem_of_getElem? (l := tables_1_4) (i := 20) rfl)
set_option maxRecDepth 100000 in
theorem tw_808 : (Cond.instanceMethod yX1_leave) ∈ lw_tbl := ch_4 _ (List.mem_of_getElem? (l := tables_1_4) (i := 22) rfl)
set_option maxRecDepth 100000 in
theorem tw_809 : (Cond.code yX1_leave cX1_leave 2 none) ∈ lw_tbl := ch_4 _ (List.mem_of_getElem? (l := tables_1_4) (i := 23) rfl)
set_option maxRecDepth 100000 in
theorem tw_810 : (Cond.methodLink RL 163 yX7_trace) ∈ lw_tbl := ch_4 _ (List.mem_of_getElem? (l := tables_1_4) (i := 24) rfl)
set_option maxRecDepth 100000 in
theorem tw_811 : (Cond.instanceMethod yX7_trace) ∈ lw_tbl := ch_4 _ (List.mem_of_getElem? (l := tables_1_4) (i := 25) rfl)
set_option maxRecDepth 100000 in
theorem tw_812 : (Cond.selects RX7 yX7_trace yX7_trace) ∈ lw_tbl := ch_4 _ (List.mem_of_getElem? (l := tables_1_4) (i := 26) rfl)
set_option maxRecDepth 100000 in
theorem tw_813 : (Cond.code yX7_trace cX7_trace 2 (some .int)) ∈ lw_tbl := ch_4 _ (List.mem_of_getElem? (l := tables_1_4) (i := 27) rfl)
set_option maxRecDepth 100000 in
theorem tw_814 : (Cond.methodLink RL 167 yX7_count) ∈ lw_tbl := ch_4 _ (List.mem_of_getElem? (l := tables_1_4) (i := 28) rfl)
set_option maxRecDepth 100000 in
theorem tw_815 : (Cond.instanceMethod yX7_count) ∈ lw_tbl := ch_4 _ (List.mem_of_getElem? (l := tables_1_4) (i := 29) rfl)
set_option maxRecDepth 100000 in
theorem tw_816 : (Cond.selects RX7 yX7_count yX7_count) ∈ lw_tbl := ch_4 _ (List.mem_of_getElem? (l := tables_1_4) (i := 30) rfl)
set_option maxRecDepth 100000 in
theorem tw_817 : (Cond.code yX7_count cX7_count 2 (some .int)) ∈ lw_tbl := ch_4 _ (List.mem_of_getElem? (l := tables_1_4) (i := 31) rfl)
set_option maxRecDepth 100000 in
theorem tw_818 : (Cond.methodLink RX7 323 yX7_rowsThere) ∈ lw_tbl := ch_4 _ (List.mem_of_getElem? (l := tables_1_4) (i := 32) rfl)
set_option maxRecDepth 100000 in
theorem tw_820 : (Cond.instanceMethod yX7_rowsThere) ∈ lw_tbl := ch_4 _ (List.mem_of_getElem? (l := tables_1_4) (i := 34) rfl)
set_option maxRecDepth 100000 in
theorem tw_821 : (Cond.code yX7_rowsThere cX7_rowsThere 3 (some .int)) ∈ lw_tbl := ch_4 _ (List.mem_of_getElem? (l := tables_1_4) (i := 35) rfl)
set_option maxRecDepth 100000 in
theorem tw_822 : (Cond.methodLink RX7 330 yX4_tookInAll) ∈ lw_tbl := ch_4 _ (List.mem_of_getElem? (l := tables_1_4) (i := 36) rfl)
set_option maxRecDepth 100000 in
theorem tw_823 : (Cond.instanceMethod yX4_tookInAll) ∈ lw_tbl := ch_4 _ (List.mem_of_getElem? (l := tables_1_4) (i := 37) rfl)
set_option maxRecDepth 100000 in
theorem tw_824 : (Cond.selects RX4 yX4_tookInAll yX4_tookInAll) ∈ lw_tbl := ch_4 _ (List.mem_of_getElem? (l := tables_1_4) (i := 38) rfl)
set_option maxRecDepth 100000 in
theorem tw_825 : (Cond.code yX4_tookInAll cX4_tookInAll 3 (some .int)) ∈ lw_tbl := ch_4 _ (List.mem_of_getElem? (l := tables_1_4) (i := 39) rfl)
set_option maxRecDepth 100000 in
theorem tw_826 : (Cond.methodLink RL 171 yX7_status) ∈ lw_tbl := ch_4 _ (List.mem_of_getElem? (l := tables_1_4) (i := 40) rfl)
set_option maxRecDepth 100000 in
theorem tw_827 : (Cond.instanceMethod yX7_status) ∈ lw_tbl := ch_4 _ (List.mem_of_getElem? (l := tables_1_4) (i := 41) rfl)
set_option maxRecDepth 100000 in
theorem tw_828 : (Cond.selects RX7 yX7_status yX7_status) ∈ lw_tbl := ch_4 _ (List.mem_of_getElem? (l := tables_1_4) (i := 42) rfl)
set_option maxRecDepth 100000 in
theorem tw_829 : (Cond.code yX7_status cX7_status 1 (some .int)) ∈ lw_tbl := ch_4 _ (List.mem_of_getElem? (l := tables_1_4) (i := 43) rfl)
set_option maxRecDepth 100000 in
theorem tw_830 : (Cond.classLink RL 10 RX8) ∈ lw_tbl := ch_4 _ (List.mem_of_getElem? (l := tables_1_4) (i := 44) rfl)
set_option maxRecDepth 100000 in
theorem tw_831 : (Cond.instantiable RX8 23) ∈ lw_tbl := ch_4 _ (List.mem_of_getElem? (l := tables_1_4) (i := 45) rfl)
set_option maxRecDepth 100000 in
theorem tw_832 : (Cond.methodLink RL 12 yX8_init) ∈ lw_tbl := ch_4 _ (List.mem_of_getElem? (l := tables_1_4) (i := 46) rfl)
set_option maxRecDepth 100000 in
theorem tw_833 : (Cond.instanceMethod yX8_init) ∈ lw_tbl := ch_4 _ (List.mem_of_getElem? (l := tables_1_4) (i := 47) rfl)
set_option maxRecDepth 100000 in
theorem tw_834 : (Cond.code yX8_init cX8_init 2 none) ∈ lw_tbl := ch_4 _ (List.mem_of_getElem? (l := tables_1_4) (i := 48) rfl)
set_option maxRecDepth 100000 in
theorem tw_835 : (Cond.methodLink RX8 1 objectInit) ∈ lw_tbl := ch_4 _ (List.mem_of_getElem? (l := tables_1_4) (i := 49) rfl)
set_option maxRecDepth 100000 in
theorem tw_836 : (Cond.constant RX8 50 (-1000000)) ∈ lw_tbl := ch_4 _ (List.mem_of_getElem? (l := tables_1_4) (i := 50) rfl)
set_option maxRecDepth 100000 in
theorem tw_837 : (Cond.fieldLink RX8 7 "WrongWordModel" "lane" "[I") ∈ lw_tbl := ch_4 _ (List.mem_of_getElem? (l := tables_1_4) (i := 51) rfl)
set_option maxRecDepth 100000 in
theorem tw_838 : (Cond.fieldLink RX8 13 "WrongWordModel" "many" "[I") ∈ lw_tbl := ch_4 _ (List.mem_of_getElem? (l := tables_1_4) (i := 52) rfl)
set_option maxRecDepth 100000 in
theorem tw_839 : (Cond.fieldLink RX8 16 "WrongWordModel" "items" "[I") ∈ lw_tbl := ch_4 _ (List.mem_of_getElem? (l := tables_1_4) (i := 53) rfl)
set_option maxRecDepth 100000 in
theorem tw_840 : (Cond.fieldLink RX8 19 "WrongWordModel" "spare" "[I") ∈ lw_tbl := ch_4 _ (List.mem_of_getElem? (l := tables_1_4) (i := 54) rfl)
set_option maxRecDepth 100000 in
theorem tw_841 : (Cond.fieldLink RX8 51 "WrongWordModel" "status" "I") ∈ lw_tbl := ch_4 _ (List.mem_of_getElem? (l := tables_1_4) (i := 55) rfl)
set_option maxRecDepth 100000 in
theorem tw_842 : (Cond.fieldLink RX8 22 "WrongWordModel" "tape" "[I") ∈ lw_tbl := ch_4 _ (List.mem_of_getElem? (l := tables_1_4) (i := 56) rfl)
set_option maxRecDepth 100000 in
theorem tw_843 : (Cond.fieldLink RX8 82 "WrongWordModel" "taped" "I") ∈ lw_tbl := ch_4 _ (List.mem_of_getElem? (l := tables_1_4) (i := 57) rfl)
set_option maxRecDepth 100000 in
theorem tw_844 : (Cond.fieldLink RX8 108 "WrongWordModel" "faultKind" "I") ∈ lw_tbl := ch_4 _ (List.mem_of_getElem? (l := tables_1_4) (i := 58) rfl)
set_option maxRecDepth 100000 in
theorem tw_845 : (Cond.fieldLink RX8 101 "WrongWordModel" "faultPlace" "I") ∈ lw_tbl := ch_4 _ (List.mem_of_getElem? (l := tables_1_4) (i := 59) rfl)
set_option maxRecDepth 100000 in
theorem tw_846 : (Cond.fieldLink RX8 86 "WrongWordModel" "at" "I") ∈ lw_tbl := ch_4 _ (List.mem_of_getElem? (l := tables_1_4) (i := 60) rfl)
set_option maxRecDepth 100000 in
theorem tw_847 : (Cond.fieldLink RX8 89 "WrongWordModel" "start" "I") ∈ lw_tbl := ch_4 _ (List.mem_of_getElem? (l := tables_1_4) (i := 61) rfl)
set_option maxRecDepth 100000 in
theorem tw_848 : (Cond.fieldLink RX8 98 "WrongWordModel" "token" "I") ∈ lw_tbl := ch_4 _ (List.mem_of_getElem? (l := tables_1_4) (i := 62) rfl)
set_option maxRecDepth 100000 in
theorem tw_849 : (Cond.fieldLink RX8 95 "WrongWordModel" "value" "I") ∈ lw_tbl := ch_4 _ (List.mem_of_getElem? (l := tables_1_4) (i := 63) rfl)
set_option maxRecDepth 100000 in
theorem tw_850 : (Cond.fieldLink RX8 25 "WrongWordModel" "now" "[I") ∈ lw_tbl := ch_4 _ (List.mem_of_getElem? (l := tables_1_4) (i := 64) rfl)
set_option maxRecDepth 100000 in
theorem tw_851 : (Cond.fieldLink RX8 28 "WrongWordModel" "draft" "[I") ∈ lw_tbl := ch_4 _ (List.mem_of_getElem? (l := tables_1_4) (i := 65) rfl)
set_option maxRecDepth 100000 in
theorem tw_852 : (Cond.fieldLink RX8 31 "WrongWordModel" "tried" "[I") ∈ lw_tbl := ch_4 _ (List.mem_of_getElem? (l := tables_1_4) (i := 66) rfl)
set_option maxRecDepth 100000 in
theorem tw_853 : (Cond.fieldLink RX8 34 "WrongWordModel" "past" "[I") ∈ lw_tbl := ch_4 _ (List.mem_of_getElem? (l := tables_1_4) (i := 67) rfl)
set_option maxRecDepth 100000 in
theorem tw_854 : (Cond.fieldLink RX8 149 "WrongWordModel" "acts" "I") ∈ lw_tbl := ch_4 _ (List.mem_of_getElem? (l := tables_1_4) (i := 68) rfl)
set_option maxRecDepth 100000 in
theorem tw_855 : (Cond.fieldLink RX8 37 "WrongWordModel" "images" "[I") ∈ lw_tbl := ch_4 _ (List.mem_of_getElem? (l := tables_1_4) (i := 69) rfl)
set_option maxRecDepth 100000 in
theorem tw_856 : (Cond.fieldLink RX8 40 "WrongWordModel" "kept" "[Z") ∈ lw_tbl := ch_4 _ (List.mem_of_getElem? (l := tables_1_4) (i := 70) rfl)
set_option maxRecDepth 100000 in
theorem tw_857 : (Cond.fieldLink RX8 44 "WrongWordModel" "men" "[I") ∈ lw_tbl := ch_4 _ (List.mem_of_getElem? (l := tables_1_4) (i := 71) rfl)
set_option maxRecDepth 100000 in
theorem tw_858 : (Cond.fieldLink RX8 47 "WrongWordModel" "trace" "[I") ∈ lw_tbl := ch_4 _ (List.mem_of_getElem? (l := tables_1_4) (i := 72) rfl)
set_option maxRecDepth 100000 in
theorem tw_859 : (Cond.fieldLink RX8 237 "WrongWordModel" "traced" "I") ∈ lw_tbl := ch_4 _ (List.mem_of_getElem? (l := tables_1_4) (i := 73) rfl)
set_option maxRecDepth 100000 in
theorem tw_907 : (Cond.arrayClass .boolean) ∈ lw_tbl := ch_4 _ (List.mem_of_getElem? (l := tables_1_4) (i := 121) rfl)
set_option maxRecDepth 100000 in
theorem tw_908 : (Cond.methodLink RL 17 yX8_row) ∈ lw_tbl := ch_4 _ (List.mem_of_getElem? (l := tables_1_4) (i := 122) rfl)
set_option maxRecDepth 100000 in
theorem tw_909 : (Cond.instanceMethod yX8_row) ∈ lw_tbl := ch_4 _ (List.mem_of_getElem? (l := tables_1_4) (i := 123) rfl)
set_option maxRecDepth 100000 in
theorem tw_910 : (Cond.selects RX8 yX8_row yX8_row) ∈ lw_tbl := ch_4 _ (List.mem_of_getElem? (l := tables_1_4) (i := 124) rfl)
set_option maxRecDepth 100000 in
theorem tw_911 : (Cond.code yX8_row cX8_row 5 (some .int)) ∈ lw_tbl := ch_4 _ (List.mem_of_getElem? (l := tables_1_4) (i := 125) rfl)
set_option maxRecDepth 100000 in
theorem tw_912 : (Cond.methodLink RX8 60 yX8_isRow) ∈ lw_tbl := ch_4 _ (List.mem_of_getElem? (l := tables_1_4) (i := 126) rfl)
set_option maxRecDepth 100000 in
theorem tw_913 : (Cond.static yX8_isRow) ∈ lw_tbl := ch_4 _ (List.mem_of_getElem? (l := tables_1_4) (i := 127) rfl)
set_option maxRecDepth 100000 in
theorem tw_914 : (Cond.code yX8_isRow cX8_isRow 1 (some .boolean)) ∈ lw_tbl := ch_4 _ (List.mem_of_getElem? (l := tables_1_4) (i := 128) rfl)
set_option maxRecDepth 100000 in
theorem tw_915 : (Cond.methodLink RX8 56 yX8_in) ∈ lw_tbl := ch_4 _ (List.mem_of_getElem? (l := tables_1_4) (i := 129) rfl)
set_option maxRecDepth 100000 in
theorem tw_916 : (Cond.static yX8_in) ∈ lw_tbl := ch_4 _ (List.mem_of_getElem? (l := tables_1_4) (i := 130) rfl)
set_option maxRecDepth 100000 in
theorem tw_917 : (Cond.code yX8_in cX8_in 3 (some .boolean)) ∈ lw_tbl := ch_4 _ (List.mem_of_getElem? (l := tables_1_4) (i := 131) rfl)
set_option maxRecDepth 100000 in
theorem tw_918 : (Cond.constant RX8 64 (-1000001)) ∈ lw_tbl := ch_4 _ (List.mem_of_getElem? (l := tables_1_4) (i := 132) rfl)
set_option maxRecDepth 100000 in
theorem tw_919 : (Cond.methodLink RX8 65 yX8_found) ∈ lw_tbl := ch_4 _ (List.mem_of_getElem? (l := tables_1_4) (i := 133) rfl)
set_option maxRecDepth 100000 in
theorem tw_921 : (Cond.instanceMethod yX8_found) ∈ lw_tbl := ch_4 _ (List.mem_of_getElem? (l := tables_1_4) (i := 135) rfl)
set_option maxRecDepth 100000 in
theorem tw_922 : (Cond.code yX8_found cX8_found 2 (some .int)) ∈ lw_tbl := ch_4 _ (List.mem_of_getElem? (l := tables_1_4) (i := 136) rfl)
set_option maxRecDepth 100000 in
theorem tw_923 : (Cond.constant RX8 55 (-1000010)) ∈ lw_tbl := ch_4 _ (List.mem_of_getElem? (l := tables_1_4) (i := 137) rfl)
set_option maxRecDepth 100000 in
theorem tw_924 : (Cond.methodLink RX8 69 yX8_well) ∈ lw_tbl := ch_4 _ (List.mem_of_getElem? (l := tables_1_4) (i := 138) rfl)
set_option maxRecDepth 100000 in
theorem tw_926 : (Cond.instanceMethod yX8_well) ∈ lw_tbl := ch_4 _ (List.mem_of_getElem? (l := tables_1_4) (i := 140) rfl)
set_option maxRecDepth 100000 in
theorem tw_927 : (Cond.code yX8_well cX8_well 2 (some .int)) ∈ lw_tbl := ch_4 _ (List.mem_of_getElem? (l := tables_1_4) (i := 141) rfl)
set_option maxRecDepth 100000 in
theorem tw_928 : (Cond.methodLink RL 21 yX8_set) ∈ lw_tbl := ch_4 _ (List.mem_of_getElem? (l := tables_1_4) (i := 142) rfl)
set_option maxRecDepth 100000 in
theorem tw_929 : (Cond.instanceMethod yX8_set) ∈ lw_tbl := ch_4 _ (List.mem_of_getElem? (l := tables_1_4) (i := 143) rfl)
set_option maxRecDepth 100000 in
theorem tw_930 : (Cond.selects RX8 yX8_set yX8_set) ∈ lw_tbl := ch_4 _ (List.mem_of_getElem? (l := tables_1_4) (i := 144) rfl)
set_option maxRecDepth 100000 in
theorem tw_931 : (Cond.code yX8_set cX8_set 4 (some .int)) ∈ lw_tbl := ch_4 _ (List.mem_of_getElem? (l := tables_1_4) (i := 145) rfl)
set_option maxRecDepth 100000 in
theorem tw_932 : (Cond.methodLink RX8 72 yX8_isMissing) ∈ lw_tbl := ch_4 _ (List.mem_of_getElem? (l := tables_1_4) (i := 146) rfl)
set_option maxRecDepth 100000 in
theorem tw_934 : (Cond.instanceMethod yX8_isMissing) ∈ lw_tbl := ch_4 _ (List.mem_of_getElem? (l := tables_1_4) (i := 148) rfl)
set_option maxRecDepth 100000 in
theorem tw_935 : (Cond.code yX8_isMissing cX8_isMissing 2 (some .boolean)) ∈ lw_tbl := ch_4 _ (List.mem_of_getElem? (l := tables_1_4) (i := 149) rfl)
set_option maxRecDepth 100000 in
theorem tw_936 : (Cond.methodLink RX8 75 yX8_cut) ∈ lw_tbl := ch_4 _ (List.mem_of_getElem? (l := tables_1_4) (i := 150) rfl)
set_option maxRecDepth 100000 in
theorem tw_937 : (Cond.static yX8_cut) ∈ lw_tbl := ch_4 _ (List.mem_of_getElem? (l := tables_1_4) (i := 151) rfl)
set_option maxRecDepth 100000 in
theorem tw_938 : (Cond.code yX8_cut cX8_cut 2 (some .int)) ∈ lw_tbl := ch_4 _ (List.mem_of_getElem? (l := tables_1_4) (i := 152) rfl)
set_option maxRecDepth 100000 in
theorem tw_939 : (Cond.methodLink RL 26 yX8_copy) ∈ lw_tbl := ch_4 _ (List.mem_of_getElem? (l := tables_1_4) (i := 153) rfl)
set_option maxRecDepth 100000 in
theorem tw_940 : (Cond.instanceMethod yX8_copy) ∈ lw_tbl := ch_4 _ (List.mem_of_getElem? (l := tables_1_4) (i := 154) rfl)
set_option maxRecDepth 100000 in
theorem tw_941 : (Cond.selects RX8 yX8_copy yX8_copy) ∈ lw_tbl := ch_4 _ (List.mem_of_getElem? (l := tables_1_4) (i := 155) rfl)
set_option maxRecDepth 100000 in
theorem tw_942 : (Cond.code yX8_copy cX8_copy 7 (some .int)) ∈ lw_tbl := ch_4 _ (List.mem_of_getElem? (l := tables_1_4) (i := 156) rfl)
set_option maxRecDepth 100000 in
theorem tw_943 : (Cond.methodLink RX8 79 yX8_isPart) ∈ lw_tbl := ch_4 _ (List.mem_of_getElem? (l := tables_1_4) (i := 157) rfl)
set_option maxRecDepth 100000 in
theorem tw_945 : (Cond.instanceMethod yX8_isPart) ∈ lw_tbl := ch_4 _ (List.mem_of_getElem? (l := tables_1_4) (i := 159) rfl)
set_option maxRecDepth 100000 in
theorem tw_946 : (Cond.code yX8_isPart cX8_isPart 4 (some .boolean)) ∈ lw_tbl := ch_4 _ (List.mem_of_getElem? (l := tables_1_4) (i := 160) rfl)
set_option maxRecDepth 100000 in
theorem tw_947 : (Cond.methodLink RL 31 yX8_drop) ∈ lw_tbl := ch_4 _ (List.mem_of_getElem? (l := tables_1_4) (i := 161) rfl)
set_option maxRecDepth 100000 in
theorem tw_948 : (Cond.instanceMethod yX8_drop) ∈ lw_tbl := ch_4 _ (List.mem_of_getElem? (l := tables_1_4) (i := 162) rfl)
set_option maxRecDepth 100000 in
theorem tw_949 : (Cond.selects RX8 yX8_drop yX8_drop) ∈ lw_tbl := ch_4 _ (List.mem_of_getElem? (l := tables_1_4) (i := 163) rfl)
set_option maxRecDepth 100000 in
theorem tw_950 : (Cond.code yX8_drop cX8_drop 2 (some .int)) ∈ lw_tbl := ch_4 _ (List.mem_of_getElem? (l := tables_1_4) (i := 164) rfl)
set_option maxRecDepth 100000 in
theorem tw_951 : (Cond.methodLink RL 35 yX8_feed) ∈ lw_tbl := ch_4 _ (List.mem_of_getElem? (l := tables_1_4) (i := 165) rfl)
set_option maxRecDepth 100000 in
theorem tw_952 : (Cond.instanceMethod yX8_feed) ∈ lw_tbl := ch_4 _ (List.mem_of_getElem? (l := tables_1_4) (i := 166) rfl)
set_option maxRecDepth 100000 in
theorem tw_953 : (Cond.selects RX8 yX8_feed yX8_feed) ∈ lw_tbl := ch_4 _ (List.mem_of_getElem? (l := tables_1_4) (i := 167) rfl)
set_option maxRecDepth 100000 in
theorem tw_954 : (Cond.code yX8_feed cX8_feed 2 (some .int)) ∈ lw_tbl := ch_4 _ (List.mem_of_getElem? (l := tables_1_4) (i := 168) rfl)
set_option maxRecDepth 100000 in
theorem tw_955 : (Cond.constant RX8 85 (-1000003)) ∈ lw_tbl := ch_4 _ (List.mem_of_getElem? (l := tables_1_4) (i := 169) rfl)
set_option maxRecDepth 100000 in
theorem tw_956 : (Cond.methodLink RL 40 yX8_gate) ∈ lw_tbl := ch_4 _ (List.mem_of_getElem? (l := tables_1_4) (i := 170) rfl)
set_option maxRecDepth 100000 in
theorem tw_957 : (Cond.instanceMethod yX8_gate) ∈ lw_tbl := ch_4 _ (List.mem_of_getElem? (l := tables_1_4) (i := 171) rfl)
set_option maxRecDepth 100000 in
theorem tw_958 : (Cond.selects RX8 yX8_gate yX8_gate) ∈ lw_tbl := ch_4 _ (List.mem_of_getElem? (l := tables_1_4) (i := 172) rfl)
set_option maxRecDepth 100000 in
theorem tw_959 : (Cond.code yX8_gate cX8_gate 2 (some .int)) ∈ lw_tbl := ch_4 _ (List.mem_of_getElem? (l := tables_1_4) (i := 173) rfl)
set_option maxRecDepth 100000 in
theorem tw_960 : (Cond.methodLink RX8 111 yX8_advances) ∈ lw_tbl := ch_4 _ (List.mem_of_getElem? (l := tables_1_4) (i := 174) rfl)
set_option maxRecDepth 100000 in
theorem tw_962 : (Cond.instanceMethod yX8_advances) ∈ lw_tbl := ch_4 _ (List.mem_of_getElem? (l := tables_1_4) (i := 176) rfl)
set_option maxRecDepth 100000 in
theorem tw_963 : (Cond.code yX8_advances cX8_advances 2 none) ∈ lw_tbl := ch_4 _ (List.mem_of_getElem? (l := tables_1_4) (i := 177) rfl)
set_option maxRecDepth 100000 in
theorem tw_964 : (Cond.methodLink RX8 92 yX8_byteAt) ∈ lw_tbl := ch_4 _ (List.mem_of_getElem? (l := tables_1_4) (i := 178) rfl)
set_option maxRecDepth 100000 in
theorem tw_966 : (Cond.instanceMethod yX8_byteAt) ∈ lw_tbl := ch_4 _ (List.mem_of_getElem? (l := tables_1_4) (i := 180) rfl)
set_option maxRecDepth 100000 in
theorem tw_967 : (Cond.code yX8_byteAt cX8_byteAt 2 (some .int)) ∈ lw_tbl := ch_4 _ (List.mem_of_getElem? (l := tables_1_4) (i := 181) rfl)
set_option maxRecDepth 100000 in
theorem tw_968 : (Cond.methodLink RX8 114 yX8_takes) ∈ lw_tbl := ch_4 _ (List.mem_of_getElem? (l := tables_1_4) (i := 182) rfl)
set_option maxRecDepth 100000 in
theorem tw_970 : (Cond.instanceMethod yX8_takes) ∈ lw_tbl := ch_4 _ (List.mem_of_getElem? (l := tables_1_4) (i := 184) rfl)
set_option maxRecDepth 100000 in
theorem tw_971 : (Cond.code yX8_takes cX8_takes 4 (some .int)) ∈ lw_tbl := ch_4 _ (List.mem_of_getElem? (l := tables_1_4) (i := 185) rfl)
set_option maxRecDepth 100000 in
theorem tw_972 : (Cond.methodLink RX8 104 yX8_isWell) ∈ lw_tbl := ch_4 _ (List.mem_of_getElem? (l := tables_1_4) (i := 186) rfl)
set_option maxRecDepth 100000 in
theorem tw_974 : (Cond.instanceMethod yX8_isWell) ∈ lw_tbl := ch_4 _ (List.mem_of_getElem? (l := tables_1_4) (i := 188) rfl)
set_option maxRecDepth 100000 in
theorem tw_975 : (Cond.code yX8_isWell cX8_isWell 1 (some .boolean)) ∈ lw_tbl := ch_4 _ (List.mem_of_getElem? (l := tables_1_4) (i := 189) rfl)
set_option maxRecDepth 100000 in
theorem tw_976 : (Cond.methodLink RX8 118 yX8_figure) ∈ lw_tbl := ch_4 _ (List.mem_of_getElem? (l := tables_1_4) (i := 190) rfl)
set_option maxRecDepth 100000 in
theorem tw_978 : (Cond.instanceMethod yX8_figure) ∈ lw_tbl := ch_4 _ (List.mem_of_getElem? (l := tables_1_4) (i := 192) rfl)
set_option maxRecDepth 100000 in
theorem tw_979 : (Cond.code yX8_figure cX8_figure 3 (some .int)) ∈ lw_tbl := ch_4 _ (List.mem_of_getElem? (l := tables_1_4) (i := 193) rfl)
set_option maxRecDepth 100000 in
theorem tw_980 : (Cond.methodLink RX8 131 yX8_follows) ∈ lw_tbl := ch_4 _ (List.mem_of_getElem? (l := tables_1_4) (i := 194) rfl)
set_option maxRecDepth 100000 in
theorem tw_982 : (Cond.instanceMethod yX8_follows) ∈ lw_tbl := ch_4 _ (List.mem_of_getElem? (l := tables_1_4) (i := 196) rfl)
set_option maxRecDepth 100000 in
theorem tw_983 : (Cond.code yX8_follows cX8_follows 3 (some .int)) ∈ lw_tbl := ch_4 _ (List.mem_of_getElem? (l := tables_1_4) (i := 197) rfl)
set_option maxRecDepth 100000 in
theorem tw_984 : (Cond.methodLink RX8 134 yX8_must) ∈ lw_tbl := ch_4 _ (List.mem_of_getElem? (l := tables_1_4) (i := 198) rfl)
set_option maxRecDepth 100000 in
theorem tw_986 : (Cond.instanceMethod yX8_must) ∈ lw_tbl := ch_4 _ (List.mem_of_getElem? (l := tables_1_4) (i := 200) rfl)
set_option maxRecDepth 100000 in
theorem tw_987 : (Cond.code yX8_must cX8_must 2 none) ∈ lw_tbl := ch_4 _ (List.mem_of_getElem? (l := tables_1_4) (i := 201) rfl)
set_option maxRecDepth 100000 in
theorem tw_988 : (Cond.methodLink RX8 138 yX8_readsWord) ∈ lw_tbl := ch_4 _ (List.mem_of_getElem? (l := tables_1_4) (i := 202) rfl)
set_option maxRecDepth 100000 in
theorem tw_990 : (Cond.instanceMethod yX8_readsWord) ∈ lw_tbl := ch_4 _ (List.mem_of_getElem? (l := tables_1_4) (i := 204) rfl)
set_option maxRecDepth 100000 in
theorem tw_991 : (Cond.code yX8_readsWord cX8_readsWord 5 none) ∈ lw_tbl := ch_4 _ (List.mem_of_getElem? (l := tables_1_4) (i := 205) rfl)
set_option maxRecDepth 100000 in
theorem tw_992 : (Cond.methodLink RX8 121 yX8_letterOf) ∈ lw_tbl := ch_4 _ (List.mem_of_getElem? (l := tables_1_4) (i := 206) rfl)
set_option maxRecDepth 100000 in
theorem tw_994 : (Cond.instanceMethod yX8_letterOf) ∈ lw_tbl := ch_4 _ (List.mem_of_getElem? (l := tables_1_4) (i := 208) rfl)
set_option maxRecDepth 100000 in
theorem tw_995 : (Cond.code yX8_letterOf cX8_letterOf 1 (some .int)) ∈ lw_tbl := ch_4 _ (List.mem_of_getElem? (l := tables_1_4) (i := 209) rfl)
set_option maxRecDepth 100000 in
theorem tw_996 : (Cond.methodLink RX8 125 yX8_isTold) ∈ lw_tbl := ch_4 _ (List.mem_of_getElem? (l := tables_1_4) (i := 210) rfl)
set_option maxRecDepth 100000 in
theorem tw_998 : (Cond.instanceMethod yX8_isTold) ∈ lw_tbl := ch_4 _ (List.mem_of_getElem? (l := tables_1_4) (i := 212) rfl)
set_option maxRecDepth 100000 in
theorem tw_999 : (Cond.code yX8_isTold cX8_isTold 7 (some .boolean)) ∈ lw_tbl := ch_4 _ (List.mem_of_getElem? (l := tables_1_4) (i := 213) rfl)
set_option maxRecDepth 100000 in
theorem tw_1000 : (Cond.methodLink RX8 128 yX8_kindOf) ∈ lw_tbl := ch_4 _ (List.mem_of_getElem? (l := tables_1_4) (i := 214) rfl)
set_option maxRecDepth 100000 in
theorem tw_1001 : (Cond.static yX8_kindOf) ∈ lw_tbl := ch_4 _ (List.mem_of_getElem? (l := tables_1_4) (i := 215) rfl)
set_option maxRecDepth 100000 in
theorem tw_1002 : (Cond.code yX8_kindOf cX8_kindOf 1 (some .int)) ∈ lw_tbl := ch_4 _ (List.mem_of_getElem? (l := tables_1_4) (i := 216) rfl)
set_option maxRecDepth 100000 in
theorem tw_1003 : (Cond.methodLink RX8 141 yX8_readsGuard) ∈ lw_tbl := ch_4 _ (List.mem_of_getElem? (l := tables_1_4) (i := 217) rfl)
set_option maxRecDepth 100000 in
theorem tw_1005 : (Cond.instanceMethod yX8_readsGuard) ∈ lw_tbl := ch_4 _ (List.mem_of_getElem? (l := tables_1_4) (i := 219) rfl)
set_option maxRecDepth 100000 in
theorem tw_1006 : (Cond.code yX8_readsGuard cX8_readsGuard 4 none) ∈ lw_tbl := ch_4 _ (List.mem_of_getElem? (l := tables_1_4) (i := 220) rfl)
set_option maxRecDepth 100000 in
theorem tw_1007 : (Cond.constant RX8 144 (-1000100)) ∈ lw_tbl := ch_4 _ (List.mem_of_getElem? (l := tables_1_4) (i := 221) rfl)
set_option maxRecDepth 100000 in
theorem tw_1008 : (Cond.methodLink RX8 145 yX8_copies) ∈ lw_tbl := ch_4 _ (List.mem_of_getElem? (l := tables_1_4) (i := 222) rfl)
set_option maxRecDepth 100000 in
theorem tw_1009 : (Cond.static yX8_copies) ∈ lw_tbl := ch_4 _ (List.mem_of_getElem? (l := tables_1_4) (i := 223) rfl)
set_option maxRecDepth 100000 in
theorem tw_1010 : (Cond.code yX8_copies cX8_copies 5 none) ∈ lw_tbl := ch_4 _ (List.mem_of_getElem? (l := tables_1_4) (i := 224) rfl)
set_option maxRecDepth 100000 in
theorem tw_1011 : (Cond.methodLink RL 44 yX8_fault) ∈ lw_tbl := ch_4 _ (List.mem_of_getElem? (l := tables_1_4) (i := 225) rfl)
set_option maxRecDepth 100000 in
theorem tw_1012 : (Cond.instanceMethod yX8_fault) ∈ lw_tbl := ch_4 _ (List.mem_of_getElem? (l := tables_1_4) (i := 226) rfl)
set_option maxRecDepth 100000 in
theorem tw_1013 : (Cond.selects RX8 yX8_fault yX8_fault) ∈ lw_tbl := ch_4 _ (List.mem_of_getElem? (l := tables_1_4) (i := 227) rfl)
set_option maxRecDepth 100000 in
theorem tw_1014 : (Cond.code yX8_fault cX8_fault 1 (some .int)) ∈ lw_tbl := ch_4 _ (List.mem_of_getElem? (l := tables_1_4) (i := 228) rfl)
set_option maxRecDepth 100000 in
theorem tw_1015 : (Cond.methodLink RL 48 yX8_nights) ∈ lw_tbl := ch_4 _ (List.mem_of_getElem? (l := tables_1_4) (i := 229) rfl)
set_option maxRecDepth 100000 in
theorem tw_1016 : (Cond.instanceMethod yX8_nights) ∈ lw_tbl := ch_4 _ (List.mem_of_getElem? (l := tables_1_4) (i := 230) rfl)
set_option maxRecDepth 100000 in
theorem tw_1017 : (Cond.selects RX8 yX8_nights yX8_nights) ∈ lw_tbl := ch_4 _ (List.mem_of_getElem? (l := tables_1_4) (i := 231) rfl)
set_option maxRecDepth 100000 in
theorem tw_1018 : (Cond.code yX8_nights cX8_nights 3 (some .int)) ∈ lw_tbl := ch_4 _ (List.mem_of_getElem? (l := tables_1_4) (i := 232) rfl)
set_option maxRecDepth 100000 in
theorem tw_1019 : (Cond.methodLink RX8 180 yX8_isGate) ∈ lw_tbl := ch_4 _ (List.mem_of_getElem? (l := tables_1_4) (i := 233) rfl)
set_option maxRecDepth 100000 in
theorem tw_1021 : (Cond.instanceMethod yX8_isGate) ∈ lw_tbl := ch_4 _ (List.mem_of_getElem? (l := tables_1_4) (i := 235) rfl)
set_option maxRecDepth 100000 in
theorem tw_1022 : (Cond.code yX8_isGate cX8_isGate 1 (some .boolean)) ∈ lw_tbl := ch_4 _ (List.mem_of_getElem? (l := tables_1_4) (i := 236) rfl)
set_option maxRecDepth 100000 in
theorem tw_1023 : (Cond.constant RX8 183 (-1000002)) ∈ lw_tbl := ch_4 _ (List.mem_of_getElem? (l := tables_1_4) (i := 237) rfl)
set_option maxRecDepth 100000 in
theorem tw_1024 : (Cond.methodLink RX8 184 yX8_notes) ∈ lw_tbl := ch_4 _ (List.mem_of_getElem? (l := tables_1_4) (i := 238) rfl)
set_option maxRecDepth 100000 in
theorem tw_1026 : (Cond.instanceMethod yX8_notes) ∈ lw_tbl := ch_5 _ (List.mem_of_getElem? (l := tables_1_5) (i := 0) rfl)
set_option maxRecDepth 100000 in
theorem tw_1027 : (Cond.code yX8_notes cX8_notes 2 none) ∈ lw_tbl := ch_5 _ (List.mem_of_getElem? (l := tables_1_5) (i := 1) rfl)
set_option maxRecDepth 100000 in
theorem tw_1028 : (Cond.methodLink RX8 187 yX8_forgets) ∈ lw_tbl := ch_5 _ (List.mem_of_getElem? (l := tables_1_5) (i := 2) rfl)
set_option maxRecDepth 100000 in
theorem tw_1030 : (Cond.instanceMethod yX8_forgets) ∈ lw_tbl := ch_5 _ (List.mem_of_getElem? (l := tables_1_5) (i := 4) rfl)
set_option maxRecDepth 100000 in
theorem tw_1031 : (Cond.code yX8_forgets cX8_forgets 2 none) ∈ lw_tbl := ch_5 _ (List.mem_of_getElem? (l := tables_1_5) (i := 5) rfl)
set_option maxRecDepth 100000 in
theorem tw_1032 : (Cond.methodLink RX8 172 yX8_secretOf) ∈ lw_tbl := ch_5 _ (List.mem_of_getElem? (l := tables_1_5) (i := 6) rfl)
set_option maxRecDepth 100000 in
theorem tw_1033 : (Cond.static yX8_secretOf) ∈ lw_tbl := ch_5 _ (List.mem_of_getElem? (l := tables_1_5) (i := 7) rfl)
set_option maxRecDepth 100000 in
theorem tw_1034 : (Cond.code yX8_secretOf cX8_secretOf 2 (some .int)) ∈ lw_tbl := ch_5 _ (List.mem_of_getElem? (l := tables_1_5) (i := 8) rfl)
set_option maxRecDepth 100000 in
theorem tw_1035 : (Cond.methodLink RL 53 yX8_say) ∈ lw_tbl := ch_5 _ (List.mem_of_getElem? (l := tables_1_5) (i := 9) rfl)
set_option maxRecDepth 100000 in
theorem tw_1036 : (Cond.instanceMethod yX8_say) ∈ lw_tbl := ch_5 _ (List.mem_of_getElem? (l := tables_1_5) (i := 10) rfl)
set_option maxRecDepth 100000 in
theorem tw_1037 : (Cond.selects RX8 yX8_say yX8_say) ∈ lw_tbl := ch_5 _ (List.mem_of_getElem? (l := tables_1_5) (i := 11) rfl)
set_option maxRecDepth 100000 in
theorem tw_1038 : (Cond.code yX8_say cX8_say 6 (some .int)) ∈ lw_tbl := ch_5 _ (List.mem_of_getElem? (l := tables_1_5) (i := 12) rfl)
set_option maxRecDepth 100000 in
theorem tw_1039 : (Cond.methodLink RX8 190 yX8_isWord) ∈ lw_tbl := ch_5 _ (List.mem_of_getElem? (l := tables_1_5) (i := 13) rfl)
set_option maxRecDepth 100000 in
theorem tw_1041 : (Cond.instanceMethod yX8_isWord) ∈ lw_tbl := ch_5 _ (List.mem_of_getElem? (l := tables_1_5) (i := 15) rfl)
set_option maxRecDepth 100000 in
theorem tw_1042 : (Cond.code yX8_isWord cX8_isWord 2 (some .boolean)) ∈ lw_tbl := ch_5 _ (List.mem_of_getElem? (l := tables_1_5) (i := 16) rfl)
set_option maxRecDepth 100000 in
theorem tw_1043 : (Cond.methodLink RX8 193 yX8_isHour) ∈ lw_tbl := ch_5 _ (List.mem_of_getElem? (l := tables_1_5) (i := 17) rfl)
set_option maxRecDepth 100000 in
theorem tw_1044 : (Cond.static yX8_isHour) ∈ lw_tbl := ch_5 _ (List.mem_of_getElem? (l := tables_1_5) (i := 18) rfl)
set_option maxRecDepth 100000 in
theorem tw_1045 : (Cond.code yX8_isHour cX8_isHour 1 (some .boolean)) ∈ lw_tbl := ch_5 _ (List.mem_of_getElem? (l := tables_1_5) (i := 19) rfl)
set_option maxRecDepth 100000 in
theorem tw_1046 : (Cond.methodLink RX8 158 yX8_guardOn) ∈ lw_tbl := ch_5 _ (List.mem_of_getElem? (l := tables_1_5) (i := 20) rfl)
set_option maxRecDepth 100000 in
theorem tw_1048 : (Cond.instanceMethod yX8_guardOn) ∈ lw_tbl := ch_5 _ (List.mem_of_getElem? (l := tables_1_5) (i := 22) rfl)
set_option maxRecDepth 100000 in
theorem tw_1049 : (Cond.code yX8_guardOn cX8_guardOn 3 (some .int)) ∈ lw_tbl := ch_5 _ (List.mem_of_getElem? (l := tables_1_5) (i := 23) rfl)
set_option maxRecDepth 100000 in
theorem tw_1050 : (Cond.methodLink RX8 196 yX8_isTakenNow) ∈ lw_tbl := ch_5 _ (List.mem_of_getElem? (l := tables_1_5) (i := 24) rfl)
set_option maxRecDepth 100000 in
theorem tw_1052 : (Cond.instanceMethod yX8_isTakenNow) ∈ lw_tbl := ch_5 _ (List.mem_of_getElem? (l := tables_1_5) (i := 26) rfl)
set_option maxRecDepth 100000 in
theorem tw_1053 : (Cond.code yX8_isTakenNow cX8_isTakenNow 5 (some .boolean)) ∈ lw_tbl := ch_5 _ (List.mem_of_getElem? (l := tables_1_5) (i := 27) rfl)
set_option maxRecDepth 100000 in
theorem tw_1054 : (Cond.methodLink RX8 176 yX8_isTaken) ∈ lw_tbl := ch_5 _ (List.mem_of_getElem? (l := tables_1_5) (i := 28) rfl)
set_option maxRecDepth 100000 in
theorem tw_1056 : (Cond.instanceMethod yX8_isTaken) ∈ lw_tbl := ch_5 _ (List.mem_of_getElem? (l := tables_1_5) (i := 30) rfl)
set_option maxRecDepth 100000 in
theorem tw_1057 : (Cond.code yX8_isTaken cX8_isTaken 7 (some .boolean)) ∈ lw_tbl := ch_5 _ (List.mem_of_getElem? (l := tables_1_5) (i := 31) rfl)
set_option maxRecDepth 100000 in
theorem tw_1058 : (Cond.methodLink RX8 161 yX8_has) ∈ lw_tbl := ch_5 _ (List.mem_of_getElem? (l := tables_1_5) (i := 32) rfl)
set_option maxRecDepth 100000 in
theorem tw_1059 : (Cond.static yX8_has) ∈ lw_tbl := ch_5 _ (List.mem_of_getElem? (l := tables_1_5) (i := 33) rfl)
set_option maxRecDepth 100000 in
theorem tw_1060 : (Cond.code yX8_has cX8_has 2 (some .boolean)) ∈ lw_tbl := ch_5 _ (List.mem_of_getElem? (l := tables_1_5) (i := 34) rfl)
set_option maxRecDepth 100000 in
theorem tw_1061 : (Cond.methodLink RX8 165 yX8_kindIn) ∈ lw_tbl := ch_5 _ (List.mem_of_getElem? (l := tables_1_5) (i := 35) rfl)
set_option maxRecDepth 100000 in
theorem tw_1063 : (Cond.instanceMethod yX8_kindIn) ∈ lw_tbl := ch_5 _ (List.mem_of_getElem? (l := tables_1_5) (i := 37) rfl)
set_option maxRecDepth 100000 in
theorem tw_1064 : (Cond.code yX8_kindIn cX8_kindIn 2 (some .int)) ∈ lw_tbl := ch_5 _ (List.mem_of_getElem? (l := tables_1_5) (i := 38) rfl)
set_option maxRecDepth 100000 in
theorem tw_1065 : (Cond.methodLink RX8 168 yX8_takesBy) ∈ lw_tbl := ch_5 _ (List.mem_of_getElem? (l := tables_1_5) (i := 39) rfl)
set_option maxRecDepth 100000 in
theorem tw_1067 : (Cond.instanceMethod yX8_takesBy) ∈ lw_tbl := ch_5 _ (List.mem_of_getElem? (l := tables_1_5) (i := 41) rfl)
set_option maxRecDepth 100000 in
theorem tw_1068 : (Cond.code yX8_takesBy cX8_takesBy 5 (some .boolean)) ∈ lw_tbl := ch_5 _ (List.mem_of_getElem? (l := tables_1_5) (i := 42) rfl)
set_option maxRecDepth 100000 in
theorem tw_1069 : (Cond.methodLink RX8 152 yX8_distance) ∈ lw_tbl := ch_5 _ (List.mem_of_getElem? (l := tables_1_5) (i := 43) rfl)
set_option maxRecDepth 100000 in
theorem tw_1071 : (Cond.instanceMethod yX8_distance) ∈ lw_tbl := ch_5 _ (List.mem_of_getElem? (l := tables_1_5) (i := 45) rfl)
set_option maxRecDepth 100000 in
theorem tw_1072 : (Cond.code yX8_distance cX8_distance 5 (some .int)) ∈ lw_tbl := ch_5 _ (List.mem_of_getElem? (l := tables_1_5) (i := 46) rfl)
set_option maxRecDepth 100000 in
theorem tw_1073 : (Cond.methodLink RX8 155 yX8_lips) ∈ lw_tbl := ch_5 _ (List.mem_of_getElem? (l := tables_1_5) (i := 47) rfl)
set_option maxRecDepth 100000 in
theorem tw_1075 : (Cond.instanceMethod yX8_lips) ∈ lw_tbl := ch_5 _ (List.mem_of_getElem? (l := tables_1_5) (i := 49) rfl)
set_option maxRecDepth 100000 in
theorem tw_1076 : (Cond.code yX8_lips cX8_lips 5 (some .int)) ∈ lw_tbl := ch_5 _ (List.mem_of_getElem? (l := tables_1_5) (i := 50) rfl)
set_option maxRecDepth 100000 in
theorem tw_1077 : (Cond.methodLink RL 57 yX8_start) ∈ lw_tbl := ch_5 _ (List.mem_of_getElem? (l := tables_1_5) (i := 51) rfl)
set_option maxRecDepth 100000 in
theorem tw_1078 : (Cond.instanceMethod yX8_start) ∈ lw_tbl := ch_5 _ (List.mem_of_getElem? (l := tables_1_5) (i := 52) rfl)
set_option maxRecDepth 100000 in
theorem tw_1079 : (Cond.selects RX8 yX8_start yX8_start) ∈ lw_tbl := ch_5 _ (List.mem_of_getElem? (l := tables_1_5) (i := 53) rfl)
set_option maxRecDepth 100000 in
theorem tw_1080 : (Cond.code yX8_start cX8_start 3 (some .int)) ∈ lw_tbl := ch_5 _ (List.mem_of_getElem? (l := tables_1_5) (i := 54) rfl)
set_option maxRecDepth 100000 in
theorem tw_1081 : (Cond.methodLink RL 61 yX8_dismiss) ∈ lw_tbl := ch_5 _ (List.mem_of_getElem? (l := tables_1_5) (i := 55) rfl)
set_option maxRecDepth 100000 in
theorem tw_1082 : (Cond.instanceMethod yX8_dismiss) ∈ lw_tbl := ch_5 _ (List.mem_of_getElem? (l := tables_1_5) (i := 56) rfl)
set_option maxRecDepth 100000 in
theorem tw_1083 : (Cond.selects RX8 yX8_dismiss yX8_dismiss) ∈ lw_tbl := ch_5 _ (List.mem_of_getElem? (l := tables_1_5) (i := 57) rfl)
set_option maxRecDepth 100000 in
theorem tw_1084 : (Cond.code yX8_dismiss cX8_dismiss 3 (some .int)) ∈ lw_tbl := ch_5 _ (List.mem_of_getElem? (l := tables_1_5) (i := 58) rfl)
set_option maxRecDepth 100000 in
theorem tw_1085 : (Cond.methodLink RX8 199 yX8_isGuard) ∈ lw_tbl := ch_5 _ (List.mem_of_getElem? (l := tables_1_5) (i := 59) rfl)
set_option maxRecDepth 100000 in
theorem tw_1087 : (Cond.instanceMethod yX8_isGuard) ∈ lw_tbl := ch_5 _ (List.mem_of_getElem? (l := tables_1_5) (i := 61) rfl)
set_option maxRecDepth 100000 in
theorem tw_1088 : (Cond.code yX8_isGuard cX8_isGuard 2 (some .boolean)) ∈ lw_tbl := ch_5 _ (List.mem_of_getElem? (l := tables_1_5) (i := 62) rfl)
set_option maxRecDepth 100000 in
theorem tw_1089 : (Cond.methodLink RL 65 yX8_undo) ∈ lw_tbl := ch_5 _ (List.mem_of_getElem? (l := tables_1_5) (i := 63) rfl)
set_option maxRecDepth 100000 in
theorem tw_1090 : (Cond.instanceMethod yX8_undo) ∈ lw_tbl := ch_5 _ (List.mem_of_getElem? (l := tables_1_5) (i := 64) rfl)
set_option maxRecDepth 100000 in
theorem tw_1091 : (Cond.selects RX8 yX8_undo yX8_undo) ∈ lw_tbl := ch_5 _ (List.mem_of_getElem? (l := tables_1_5) (i := 65) rfl)
set_option maxRecDepth 100000 in
theorem tw_1092 : (Cond.code yX8_undo cX8_undo 1 (some .int)) ∈ lw_tbl := ch_5 _ (List.mem_of_getElem? (l := tables_1_5) (i := 66) rfl)
set_option maxRecDepth 100000 in
theorem tw_1093 : (Cond.methodLink RL 69 yX8_letter) ∈ lw_tbl := ch_5 _ (List.mem_of_getElem? (l := tables_1_5) (i := 67) rfl)
set_option maxRecDepth 100000 in
theorem tw_1094 : (Cond.instanceMethod yX8_letter) ∈ lw_tbl := ch_5 _ (List.mem_of_getElem? (l := tables_1_5) (i := 68) rfl)
set_option maxRecDepth 100000 in
theorem tw_1095 : (Cond.selects RX8 yX8_letter yX8_letter) ∈ lw_tbl := ch_5 _ (List.mem_of_getElem? (l := tables_1_5) (i := 69) rfl)
set_option maxRecDepth 100000 in
theorem tw_1096 : (Cond.code yX8_letter cX8_letter 3 (some .int)) ∈ lw_tbl := ch_5 _ (List.mem_of_getElem? (l := tables_1_5) (i := 70) rfl)
set_option maxRecDepth 100000 in
theorem tw_1097 : (Cond.methodLink RL 73 yX8_like) ∈ lw_tbl := ch_5 _ (List.mem_of_getElem? (l := tables_1_5) (i := 71) rfl)
set_option maxRecDepth 100000 in
theorem tw_1098 : (Cond.instanceMethod yX8_like) ∈ lw_tbl := ch_5 _ (List.mem_of_getElem? (l := tables_1_5) (i := 72) rfl)
set_option maxRecDepth 100000 in
theorem tw_1099 : (Cond.selects RX8 yX8_like yX8_like) ∈ lw_tbl := ch_5 _ (List.mem_of_getElem? (l := tables_1_5) (i := 73) rfl)
set_option maxRecDepth 100000 in
theorem tw_1100 : (Cond.code yX8_like cX8_like 4 (some .int)) ∈ lw_tbl := ch_5 _ (List.mem_of_getElem? (l := tables_1_5) (i := 74) rfl)
set_option maxRecDepth 100000 in
theorem tw_1101 : (Cond.methodLink RL 77 yX8_guard) ∈ lw_tbl := ch_5 _ (List.mem_of_getElem? (l := tables_1_5) (i := 75) rfl)
set_option maxRecDepth 100000 in
theorem tw_1102 : (Cond.instanceMethod yX8_guard) ∈ lw_tbl := ch_5 _ (List.mem_of_getElem? (l := tables_1_5) (i := 76) rfl)
set_option maxRecDepth 100000 in
theorem tw_1103 : (Cond.selects RX8 yX8_guard yX8_guard) ∈ lw_tbl := ch_5 _ (List.mem_of_getElem? (l := tables_1_5) (i := 77) rfl)
set_option maxRecDepth 100000 in
theorem tw_1104 : (Cond.code yX8_guard cX8_guard 3 (some .int)) ∈ lw_tbl := ch_5 _ (List.mem_of_getElem? (l := tables_1_5) (i := 78) rfl)
set_option maxRecDepth 100000 in
theorem tw_1105 : (Cond.methodLink RX8 202 yX8_hoursOf) ∈ lw_tbl := ch_5 _ (List.mem_of_getElem? (l := tables_1_5) (i := 79) rfl)
set_option maxRecDepth 100000 in
theorem tw_1107 : (Cond.instanceMethod yX8_hoursOf) ∈ lw_tbl := ch_5 _ (List.mem_of_getElem? (l := tables_1_5) (i := 81) rfl)
set_option maxRecDepth 100000 in
theorem tw_1108 : (Cond.code yX8_hoursOf cX8_hoursOf 4 (some .int)) ∈ lw_tbl := ch_5 _ (List.mem_of_getElem? (l := tables_1_5) (i := 82) rfl)
set_option maxRecDepth 100000 in
theorem tw_1109 : (Cond.methodLink RL 81 yX8_tried) ∈ lw_tbl := ch_5 _ (List.mem_of_getElem? (l := tables_1_5) (i := 83) rfl)
set_option maxRecDepth 100000 in
theorem tw_1110 : (Cond.instanceMethod yX8_tried) ∈ lw_tbl := ch_5 _ (List.mem_of_getElem? (l := tables_1_5) (i := 84) rfl)
set_option maxRecDepth 100000 in
theorem tw_1111 : (Cond.selects RX8 yX8_tried yX8_tried) ∈ lw_tbl := ch_5 _ (List.mem_of_getElem? (l := tables_1_5) (i := 85) rfl)
set_option maxRecDepth 100000 in
theorem tw_1112 : (Cond.code yX8_tried cX8_tried 4 (some .int)) ∈ lw_tbl := ch_5 _ (List.mem_of_getElem? (l := tables_1_5) (i := 86) rfl)
set_option maxRecDepth 100000 in
theorem tw_1113 : (Cond.methodLink RL 85 yX8_secret) ∈ lw_tbl := ch_5 _ (List.mem_of_getElem? (l := tables_1_5) (i := 87) rfl)
set_option maxRecDepth 100000 in
theorem tw_1114 : (Cond.instanceMethod yX8_secret) ∈ lw_tbl := ch_5 _ (List.mem_of_getElem? (l := tables_1_5) (i := 88) rfl)
set_option maxRecDepth 100000 in
theorem tw_1115 : (Cond.selects RX8 yX8_secret yX8_secret) ∈ lw_tbl := ch_5 _ (List.mem_of_getElem? (l := tables_1_5) (i := 89) rfl)
set_option maxRecDepth 100000 in
theorem tw_1116 : (Cond.code yX8_secret cX8_secret 2 (some .int)) ∈ lw_tbl := ch_5 _ (List.mem_of_getElem? (l := tables_1_5) (i := 90) rfl)
set_option maxRecDepth 100000 in
theorem tw_1117 : (Cond.methodLink RX8 205 yX8_isFar) ∈ lw_tbl := ch_5 _ (List.mem_of_getElem? (l := tables_1_5) (i := 91) rfl)
set_option maxRecDepth 100000 in
theorem tw_1118 : (Cond.static yX8_isFar) ∈ lw_tbl := ch_5 _ (List.mem_of_getElem? (l := tables_1_5) (i := 92) rfl)
set_option maxRecDepth 100000 in
theorem tw_1119 : (Cond.code yX8_isFar cX8_isFar 1 (some .boolean)) ∈ lw_tbl := ch_5 _ (List.mem_of_getElem? (l := tables_1_5) (i := 93) rfl)
set_option maxRecDepth 100000 in
theorem tw_1120 : (Cond.methodLink RL 89 yX8_taken) ∈ lw_tbl := ch_5 _ (List.mem_of_getElem? (l := tables_1_5) (i := 94) rfl)
set_option maxRecDepth 100000 in
theorem tw_1121 : (Cond.instanceMethod yX8_taken) ∈ lw_tbl := ch_5 _ (List.mem_of_getElem? (l := tables_1_5) (i := 95) rfl)
set_option maxRecDepth 100000 in
theorem tw_1122 : (Cond.selects RX8 yX8_taken yX8_taken) ∈ lw_tbl := ch_5 _ (List.mem_of_getElem? (l := tables_1_5) (i := 96) rfl)
set_option maxRecDepth 100000 in
theorem tw_1123 : (Cond.code yX8_taken cX8_taken 4 (some .int)) ∈ lw_tbl := ch_5 _ (List.mem_of_getElem? (l := tables_1_5) (i := 97) rfl)
set_option maxRecDepth 100000 in
theorem tw_1124 : (Cond.methodLink RL 93 yX8_safe) ∈ lw_tbl := ch_5 _ (List.mem_of_getElem? (l := tables_1_5) (i := 98) rfl)
set_option maxRecDepth 100000 in
theorem tw_1125 : (Cond.instanceMethod yX8_safe) ∈ lw_tbl := ch_5 _ (List.mem_of_getElem? (l := tables_1_5) (i := 99) rfl)
set_option maxRecDepth 100000 in
theorem tw_1126 : (Cond.selects RX8 yX8_safe yX8_safe) ∈ lw_tbl := ch_5 _ (List.mem_of_getElem? (l := tables_1_5) (i := 100) rfl)
set_option maxRecDepth 100000 in
theorem tw_1127 : (Cond.code yX8_safe cX8_safe 5 (some .int)) ∈ lw_tbl := ch_5 _ (List.mem_of_getElem? (l := tables_1_5) (i := 101) rfl)
set_option maxRecDepth 100000 in
theorem tw_1128 : (Cond.methodLink RL 97 yX8_open) ∈ lw_tbl := ch_5 _ (List.mem_of_getElem? (l := tables_1_5) (i := 102) rfl)
set_option maxRecDepth 100000 in
theorem tw_1129 : (Cond.instanceMethod yX8_open) ∈ lw_tbl := ch_5 _ (List.mem_of_getElem? (l := tables_1_5) (i := 103) rfl)
set_option maxRecDepth 100000 in
theorem tw_1130 : (Cond.selects RX8 yX8_open yX8_open) ∈ lw_tbl := ch_5 _ (List.mem_of_getElem? (l := tables_1_5) (i := 104) rfl)
set_option maxRecDepth 100000 in
theorem tw_1131 : (Cond.code yX8_open cX8_open 5 (some .int)) ∈ lw_tbl := ch_5 _ (List.mem_of_getElem? (l := tables_1_5) (i := 105) rfl)
set_option maxRecDepth 100000 in
theorem tw_1132 : (Cond.methodLink RX8 208 yX8_areWords) ∈ lw_tbl := ch_5 _ (List.mem_of_getElem? (l := tables_1_5) (i := 106) rfl)
set_option maxRecDepth 100000 in
theorem tw_1134 : (Cond.instanceMethod yX8_areWords) ∈ lw_tbl := ch_5 _ (List.mem_of_getElem? (l := tables_1_5) (i := 108) rfl)
set_option maxRecDepth 100000 in
theorem tw_1135 : (Cond.code yX8_areWords cX8_areWords 2 (some .boolean)) ∈ lw_tbl := ch_5 _ (List.mem_of_getElem? (l := tables_1_5) (i := 109) rfl)
set_option maxRecDepth 100000 in
theorem tw_1136 : (Cond.methodLink RX8 211 yX8_areIn) ∈ lw_tbl := ch_5 _ (List.mem_of_getElem? (l := tables_1_5) (i := 110) rfl)
set_option maxRecDepth 100000 in
theorem tw_1138 : (Cond.instanceMethod yX8_areIn) ∈ lw_tbl := ch_5 _ (List.mem_of_getElem? (l := tables_1_5) (i := 112) rfl)
set_option maxRecDepth 100000 in
theorem tw_1139 : (Cond.code yX8_areIn cX8_areIn 8 (some .boolean)) ∈ lw_tbl := ch_5 _ (List.mem_of_getElem? (l := tables_1_5) (i := 113) rfl)
set_option maxRecDepth 100000 in
theorem tw_1140 : (Cond.methodLink RL 101 yX8_next) ∈ lw_tbl := ch_5 _ (List.mem_of_getElem? (l := tables_1_5) (i := 114) rfl)
set_option maxRecDepth 100000 in
theorem tw_1141 : (Cond.instanceMethod yX8_next) ∈ lw_tbl := ch_5 _ (List.mem_of_getElem? (l := tables_1_5) (i := 115) rfl)
set_option maxRecDepth 100000 in
theorem tw_1142 : (Cond.selects RX8 yX8_next yX8_next) ∈ lw_tbl := ch_5 _ (List.mem_of_getElem? (l := tables_1_5) (i := 116) rfl)
set_option maxRecDepth 100000 in
theorem tw_1143 : (Cond.code yX8_next cX8_next 3 (some .int)) ∈ lw_tbl := ch_5 _ (List.mem_of_getElem? (l := tables_1_5) (i := 117) rfl)
set_option maxRecDepth 100000 in
theorem tw_1144 : (Cond.methodLink RL 105 yX8_agree) ∈ lw_tbl := ch_5 _ (List.mem_of_getElem? (l := tables_1_5) (i := 118) rfl)
set_option maxRecDepth 100000 in
theorem tw_1145 : (Cond.instanceMethod yX8_agree) ∈ lw_tbl := ch_5 _ (List.mem_of_getElem? (l := tables_1_5) (i := 119) rfl)
set_option maxRecDepth 100000 in
theorem tw_1146 : (Cond.selects RX8 yX8_agree yX8_agree) ∈ lw_tbl := ch_5 _ (List.mem_of_getElem? (l := tables_1_5) (i := 120) rfl)
set_option maxRecDepth 100000 in
theorem tw_1147 : (Cond.code yX8_agree cX8_agree 1 (some .int)) ∈ lw_tbl := ch_5 _ (List.mem_of_getElem? (l := tables_1_5) (i := 121) rfl)
set_option maxRecDepth 100000 in
theorem tw_1148 : (Cond.methodLink RX8 214 yX8_agreeing) ∈ lw_tbl := ch_5 _ (List.mem_of_getElem? (l := tables_1_5) (i := 122) rfl)
set_option maxRecDepth 100000 in
theorem tw_1150 : (Cond.instanceMethod yX8_agreeing) ∈ lw_tbl := ch_5 _ (List.mem_of_getElem? (l := tables_1_5) (i := 124) rfl)
set_option maxRecDepth 100000 in
theorem tw_1151 : (Cond.code yX8_agreeing cX8_agreeing 6 (some .int)) ∈ lw_tbl := ch_5 _ (List.mem_of_getElem? (l := tables_1_5) (i := 125) rfl)
set_option maxRecDepth 100000 in
theorem tw_1152 : (Cond.methodLink RL 109 yX8_man) ∈ lw_tbl := ch_5 _ (List.mem_of_getElem? (l := tables_1_5) (i := 126) rfl)
set_option maxRecDepth 100000 in
theorem tw_1153 : (Cond.instanceMethod yX8_man) ∈ lw_tbl := ch_5 _ (List.mem_of_getElem? (l := tables_1_5) (i := 127) rfl)
set_option maxRecDepth 100000 in
theorem tw_1154 : (Cond.selects RX8 yX8_man yX8_man) ∈ lw_tbl := ch_5 _ (List.mem_of_getElem? (l := tables_1_5) (i := 128) rfl)
set_option maxRecDepth 100000 in
theorem tw_1155 : (Cond.code yX8_man cX8_man 11 (some .int)) ∈ lw_tbl := ch_5 _ (List.mem_of_getElem? (l := tables_1_5) (i := 129) rfl)
set_option maxRecDepth 100000 in
theorem tw_1156 : (Cond.methodLink RX8 217 yX8_ones) ∈ lw_tbl := ch_5 _ (List.mem_of_getElem? (l := tables_1_5) (i := 130) rfl)
set_option maxRecDepth 100000 in
theorem tw_1157 : (Cond.static yX8_ones) ∈ lw_tbl := ch_5 _ (List.mem_of_getElem? (l := tables_1_5) (i := 131) rfl)
set_option maxRecDepth 100000 in
theorem tw_1158 : (Cond.code yX8_ones cX8_ones 3 (some .int)) ∈ lw_tbl := ch_5 _ (List.mem_of_getElem? (l := tables_1_5) (i := 132) rfl)
set_option maxRecDepth 100000 in
theorem tw_1159 : (Cond.methodLink RX8 220 yX8_takenOf) ∈ lw_tbl := ch_5 _ (List.mem_of_getElem? (l := tables_1_5) (i := 133) rfl)
set_option maxRecDepth 100000 in
theorem tw_1161 : (Cond.instanceMethod yX8_takenOf) ∈ lw_tbl := ch_5 _ (List.mem_of_getElem? (l := tables_1_5) (i := 135) rfl)
set_option maxRecDepth 100000 in
theorem tw_1162 : (Cond.code yX8_takenOf cX8_takenOf 6 (some .int)) ∈ lw_tbl := ch_5 _ (List.mem_of_getElem? (l := tables_1_5) (i := 136) rfl)
set_option maxRecDepth 100000 in
theorem tw_1163 : (Cond.methodLink RL 113 yX8_fewest) ∈ lw_tbl := ch_5 _ (List.mem_of_getElem? (l := tables_1_5) (i := 137) rfl)
set_option maxRecDepth 100000 in
theorem tw_1164 : (Cond.instanceMethod yX8_fewest) ∈ lw_tbl := ch_5 _ (List.mem_of_getElem? (l := tables_1_5) (i := 138) rfl)
set_option maxRecDepth 100000 in
theorem tw_1165 : (Cond.selects RX8 yX8_fewest yX8_fewest) ∈ lw_tbl := ch_5 _ (List.mem_of_getElem? (l := tables_1_5) (i := 139) rfl)
set_option maxRecDepth 100000 in
theorem tw_1166 : (Cond.code yX8_fewest cX8_fewest 3 (some .int)) ∈ lw_tbl := ch_5 _ (List.mem_of_getElem? (l := tables_1_5) (i := 140) rfl)
set_option maxRecDepth 100000 in
theorem tw_1167 : (Cond.methodLink RX8 224 yX8_menFor) ∈ lw_tbl := ch_5 _ (List.mem_of_getElem? (l := tables_1_5) (i := 141) rfl)
set_option maxRecDepth 100000 in
theorem tw_1169 : (Cond.instanceMethod yX8_menFor) ∈ lw_tbl := ch_5 _ (List.mem_of_getElem? (l := tables_1_5) (i := 143) rfl)
set_option maxRecDepth 100000 in
theorem tw_1170 : (Cond.code yX8_menFor cX8_menFor 8 (some .int)) ∈ lw_tbl := ch_5 _ (List.mem_of_getElem? (l := tables_1_5) (i := 144) rfl)
set_option maxRecDepth 100000 in
theorem tw_1171 : (Cond.methodLink RL 118 yX8_march) ∈ lw_tbl := ch_5 _ (List.mem_of_getElem? (l := tables_1_5) (i := 145) rfl)
set_option maxRecDepth 100000 in
theorem tw_1172 : (Cond.instanceMethod yX8_march) ∈ lw_tbl := ch_5 _ (List.mem_of_getElem? (l := tables_1_5) (i := 146) rfl)
set_option maxRecDepth 100000 in
theorem tw_1173 : (Cond.selects RX8 yX8_march yX8_march) ∈ lw_tbl := ch_5 _ (List.mem_of_getElem? (l := tables_1_5) (i := 147) rfl)
set_option maxRecDepth 100000 in
theorem tw_1174 : (Cond.code yX8_march cX8_march 9 (some .int)) ∈ lw_tbl := ch_5 _ (List.mem_of_getElem? (l := tables_1_5) (i := 148) rfl)
set_option maxRecDepth 100000 in
theorem tw_1175 : (Cond.methodLink RL 122 yX8_cheap) ∈ lw_tbl := ch_5 _ (List.mem_of_getElem? (l := tables_1_5) (i := 149) rfl)
set_option maxRecDepth 100000 in
theorem tw_1176 : (Cond.instanceMethod yX8_cheap) ∈ lw_tbl := ch_5 _ (List.mem_of_getElem? (l := tables_1_5) (i := 150) rfl)
set_option maxRecDepth 100000 in
theorem tw_1177 : (Cond.selects RX8 yX8_cheap yX8_cheap) ∈ lw_tbl := ch_5 _ (List.mem_of_getElem? (l := tables_1_5) (i := 151) rfl)
set_option maxRecDepth 100000 in
theorem tw_1178 : (Cond.code yX8_cheap cX8_cheap 10 (some .int)) ∈ lw_tbl := ch_5 _ (List.mem_of_getElem? (l := tables_1_5) (i := 152) rfl)
set_option maxRecDepth 100000 in
theorem tw_1179 : (Cond.methodLink RL 126 yX8_near) ∈ lw_tbl := ch_5 _ (List.mem_of_getElem? (l := tables_1_5) (i := 153) rfl)
set_option maxRecDepth 100000 in
theorem tw_1180 : (Cond.instanceMethod yX8_near) ∈ lw_tbl := ch_5 _ (List.mem_of_getElem? (l := tables_1_5) (i := 154) rfl)
set_option maxRecDepth 100000 in
theorem tw_1181 : (Cond.selects RX8 yX8_near yX8_near) ∈ lw_tbl := ch_5 _ (List.mem_of_getElem? (l := tables_1_5) (i := 155) rfl)
set_option maxRecDepth 100000 in
theorem tw_1182 : (Cond.code yX8_near cX8_near 5 (some .int)) ∈ lw_tbl := ch_5 _ (List.mem_of_getElem? (l := tables_1_5) (i := 156) rfl)
set_option maxRecDepth 100000 in
theorem tw_1183 : (Cond.methodLink RL 130 yX8_rules) ∈ lw_tbl := ch_5 _ (List.mem_of_getElem? (l := tables_1_5) (i := 157) rfl)
set_option maxRecDepth 100000 in
theorem tw_1184 : (Cond.instanceMethod yX8_rules) ∈ lw_tbl := ch_5 _ (List.mem_of_getElem? (l := tables_1_5) (i := 158) rfl)
set_option maxRecDepth 100000 in
theorem tw_1185 : (Cond.selects RX8 yX8_rules yX8_rules) ∈ lw_tbl := ch_5 _ (List.mem_of_getElem? (l := tables_1_5) (i := 159) rfl)
set_option maxRecDepth 100000 in
theorem tw_1186 : (Cond.code yX8_rules cX8_rules 9 (some .int)) ∈ lw_tbl := ch_5 _ (List.mem_of_getElem? (l := tables_1_5) (i := 160) rfl)
set_option maxRecDepth 100000 in
theorem tw_1187 : (Cond.methodLink RL 134 yX8_fits) ∈ lw_tbl := ch_5 _ (List.mem_of_getElem? (l := tables_1_5) (i := 161) rfl)
set_option maxRecDepth 100000 in
theorem tw_1188 : (Cond.instanceMethod yX8_fits) ∈ lw_tbl := ch_5 _ (List.mem_of_getElem? (l := tables_1_5) (i := 162) rfl)
set_option maxRecDepth 100000 in
theorem tw_1189 : (Cond.selects RX8 yX8_fits yX8_fits) ∈ lw_tbl := ch_5 _ (List.mem_of_getElem? (l := tables_1_5) (i := 163) rfl)
set_option maxRecDepth 100000 in
theorem tw_1190 : (Cond.code yX8_fits cX8_fits 8 (some .int)) ∈ lw_tbl := ch_5 _ (List.mem_of_getElem? (l := tables_1_5) (i := 164) rfl)
set_option maxRecDepth 100000 in
theorem tw_1191 : (Cond.methodLink RX8 227 yX8_takesSo) ∈ lw_tbl := ch_5 _ (List.mem_of_getElem? (l := tables_1_5) (i := 165) rfl)
set_option maxRecDepth 100000 in
theorem tw_1193 : (Cond.instanceMethod yX8_takesSo) ∈ lw_tbl := ch_5 _ (List.mem_of_getElem? (l := tables_1_5) (i := 167) rfl)
set_option maxRecDepth 100000 in
theorem tw_1194 : (Cond.code yX8_takesSo cX8_takesSo 6 (some .boolean)) ∈ lw_tbl := ch_5 _ (List.mem_of_getElem? (l := tables_1_5) (i := 168) rfl)
set_option maxRecDepth 100000 in
theorem tw_1195 : (Cond.methodLink RL 138 yX8_sure) ∈ lw_tbl := ch_5 _ (List.mem_of_getElem? (l := tables_1_5) (i := 169) rfl)
set_option maxRecDepth 100000 in
theorem tw_1196 : (Cond.instanceMethod yX8_sure) ∈ lw_tbl := ch_5 _ (List.mem_of_getElem? (l := tables_1_5) (i := 170) rfl)
set_option maxRecDepth 100000 in
theorem tw_1197 : (Cond.selects RX8 yX8_sure yX8_sure) ∈ lw_tbl := ch_5 _ (List.mem_of_getElem? (l := tables_1_5) (i := 171) rfl)
set_option maxRecDepth 100000 in
theorem tw_1198 : (Cond.code yX8_sure cX8_sure 12 (some .int)) ∈ lw_tbl := ch_5 _ (List.mem_of_getElem? (l := tables_1_5) (i := 172) rfl)
set_option maxRecDepth 100000 in
theorem tw_1199 : (Cond.methodLink RL 142 yX8_drawn) ∈ lw_tbl := ch_5 _ (List.mem_of_getElem? (l := tables_1_5) (i := 173) rfl)
set_option maxRecDepth 100000 in
theorem tw_1200 : (Cond.instanceMethod yX8_drawn) ∈ lw_tbl := ch_5 _ (List.mem_of_getElem? (l := tables_1_5) (i := 174) rfl)
set_option maxRecDepth 100000 in
theorem tw_1201 : (Cond.selects RX8 yX8_drawn yX8_drawn) ∈ lw_tbl := ch_5 _ (List.mem_of_getElem? (l := tables_1_5) (i := 175) rfl)
set_option maxRecDepth 100000 in
theorem tw_1202 : (Cond.code yX8_drawn cX8_drawn 11 (some .int)) ∈ lw_tbl := ch_5 _ (List.mem_of_getElem? (l := tables_1_5) (i := 176) rfl)
set_option maxRecDepth 100000 in
theorem tw_1203 : (Cond.constant RX8 230 (999999)) ∈ lw_tbl := ch_5 _ (List.mem_of_getElem? (l := tables_1_5) (i := 177) rfl)
set_option maxRecDepth 100000 in
theorem tw_1204 : (Cond.constantLong RX8 231 (16807)) ∈ lw_tbl := ch_5 _ (List.mem_of_getElem? (l := tables_1_5) (i := 178) rfl)
set_option maxRecDepth 100000 in
theorem tw_1205 : (Cond.constantLong RX8 233 (2147483647)) ∈ lw_tbl := ch_5 _ (List.mem_of_getElem? (l := tables_1_5) (i := 179) rfl)
set_option maxRecDepth 100000 in
theorem tw_1206 : (Cond.constantLong RX8 235 (6)) ∈ lw_tbl := ch_5 _ (List.mem_of_getElem? (l := tables_1_5) (i := 180) rfl)
set_option maxRecDepth 100000 in
theorem tw_1207 : (Cond.methodLink RL 146 yX8_image) ∈ lw_tbl := ch_5 _ (List.mem_of_getElem? (l := tables_1_5) (i := 181) rfl)
set_option maxRecDepth 100000 in
theorem tw_1208 : (Cond.instanceMethod yX8_image) ∈ lw_tbl := ch_5 _ (List.mem_of_getElem? (l := tables_1_5) (i := 182) rfl)
set_option maxRecDepth 100000 in
theorem tw_1209 : (Cond.selects RX8 yX8_image yX8_image) ∈ lw_tbl := ch_5 _ (List.mem_of_getElem? (l := tables_1_5) (i := 183) rfl)
set_option maxRecDepth 100000 in
theorem tw_1210 : (Cond.code yX8_image cX8_image 2 (some .int)) ∈ lw_tbl := ch_5 _ (List.mem_of_getElem? (l := tables_1_5) (i := 184) rfl)
set_option maxRecDepth 100000 in
theorem tw_1211 : (Cond.methodLink RL 150 yX8_restore) ∈ lw_tbl := ch_5 _ (List.mem_of_getElem? (l := tables_1_5) (i := 185) rfl)
set_option maxRecDepth 100000 in
theorem tw_1212 : (Cond.instanceMethod yX8_restore) ∈ lw_tbl := ch_5 _ (List.mem_of_getElem? (l := tables_1_5) (i := 186) rfl)
set_option maxRecDepth 100000 in
theorem tw_1213 : (Cond.selects RX8 yX8_restore yX8_restore) ∈ lw_tbl := ch_5 _ (List.mem_of_getElem? (l := tables_1_5) (i := 187) rfl)
set_option maxRecDepth 100000 in
theorem tw_1214 : (Cond.code yX8_restore cX8_restore 2 (some .int)) ∈ lw_tbl := ch_5 _ (List.mem_of_getElem? (l := tables_1_5) (i := 188) rfl)
set_option maxRecDepth 100000 in
theorem tw_1215 : (Cond.methodLink RL 154 yX8_kind) ∈ lw_tbl := ch_5 _ (List.mem_of_getElem? (l := tables_1_5) (i := 189) rfl)
set_option maxRecDepth 100000 in
theorem tw_1216 : (Cond.instanceMethod yX8_kind) ∈ lw_tbl := ch_5 _ (List.mem_of_getElem? (l := tables_1_5) (i := 190) rfl)
set_option maxRecDepth 100000 in
theorem tw_1217 : (Cond.selects RX8 yX8_kind yX8_kind) ∈ lw_tbl := ch_5 _ (List.mem_of_getElem? (l := tables_1_5) (i := 191) rfl)
set_option maxRecDepth 100000 in
theorem tw_1218 : (Cond.code yX8_kind cX8_kind 2 (some .int)) ∈ lw_tbl := ch_5 _ (List.mem_of_getElem? (l := tables_1_5) (i := 192) rfl)
set_option maxRecDepth 100000 in
theorem tw_1219 : (Cond.methodLink RL 158 yX8_as) ∈ lw_tbl := ch_5 _ (List.mem_of_getElem? (l := tables_1_5) (i := 193) rfl)
set_option maxRecDepth 100000 in
theorem tw_1220 : (Cond.instanceMethod yX8_as) ∈ lw_tbl := ch_5 _ (List.mem_of_getElem? (l := tables_1_5) (i := 194) rfl)
set_option maxRecDepth 100000 in
theorem tw_1221 : (Cond.selects RX8 yX8_as yX8_as) ∈ lw_tbl := ch_5 _ (List.mem_of_getElem? (l := tables_1_5) (i := 195) rfl)
set_option maxRecDepth 100000 in
theorem tw_1222 : (Cond.code yX8_as cX8_as 5 (some .int)) ∈ lw_tbl := ch_5 _ (List.mem_of_getElem? (l := tables_1_5) (i := 196) rfl)
set_option maxRecDepth 100000 in
theorem tw_1223 : (Cond.methodLink RL 162 yX8_ask) ∈ lw_tbl := ch_5 _ (List.mem_of_getElem? (l := tables_1_5) (i := 197) rfl)
set_option maxRecDepth 100000 in
theorem tw_1224 : (Cond.instanceMethod yX8_ask) ∈ lw_tbl := ch_5 _ (List.mem_of_getElem? (l := tables_1_5) (i := 198) rfl)
set_option maxRecDepth 100000 in
theorem tw_1225 : (Cond.selects RX8 yX8_ask yX8_ask) ∈ lw_tbl := ch_5 _ (List.mem_of_getElem? (l := tables_1_5) (i := 199) rfl)
set_option maxRecDepth 100000 in
theorem tw_1226 : (Cond.code yX8_ask cX8_ask 4 (some .int)) ∈ lw_tbl := ch_5 _ (List.mem_of_getElem? (l := tables_1_5) (i := 200) rfl)
set_option maxRecDepth 100000 in
theorem tw_1227 : (Cond.methodLink RX8 247 yX8_deafSize) ∈ lw_tbl := ch_5 _ (List.mem_of_getElem? (l := tables_1_5) (i := 201) rfl)
set_option maxRecDepth 100000 in
theorem tw_1229 : (Cond.instanceMethod yX8_deafSize) ∈ lw_tbl := ch_5 _ (List.mem_of_getElem? (l := tables_1_5) (i := 203) rfl)
set_option maxRecDepth 100000 in
theorem tw_1230 : (Cond.code yX8_deafSize cX8_deafSize 4 (some .int)) ∈ lw_tbl := ch_5 _ (List.mem_of_getElem? (l := tables_1_5) (i := 204) rfl)
set_option maxRecDepth 100000 in
theorem tw_1231 : (Cond.methodLink RX8 240 yX8_begins) ∈ lw_tbl := ch_5 _ (List.mem_of_getElem? (l := tables_1_5) (i := 205) rfl)
set_option maxRecDepth 100000 in
theorem tw_1233 : (Cond.instanceMethod yX8_begins) ∈ lw_tbl := ch_5 _ (List.mem_of_getElem? (l := tables_1_5) (i := 207) rfl)
set_option maxRecDepth 100000 in
theorem tw_1234 : (Cond.code yX8_begins cX8_begins 2 none) ∈ lw_tbl := ch_5 _ (List.mem_of_getElem? (l := tables_1_5) (i := 208) rfl)
set_option maxRecDepth 100000 in
theorem tw_1235 : (Cond.methodLink RX8 250 yX8_keenSize) ∈ lw_tbl := ch_5 _ (List.mem_of_getElem? (l := tables_1_5) (i := 209) rfl)
set_option maxRecDepth 100000 in
theorem tw_1237 : (Cond.instanceMethod yX8_keenSize) ∈ lw_tbl := ch_5 _ (List.mem_of_getElem? (l := tables_1_5) (i := 211) rfl)
set_option maxRecDepth 100000 in
theorem tw_1238 : (Cond.code yX8_keenSize cX8_keenSize 4 (some .int)) ∈ lw_tbl := ch_5 _ (List.mem_of_getElem? (l := tables_1_5) (i := 212) rfl)
set_option maxRecDepth 100000 in
theorem tw_1239 : (Cond.methodLink RX8 244 yX8_keenMark) ∈ lw_tbl := ch_5 _ (List.mem_of_getElem? (l := tables_1_5) (i := 213) rfl)
set_option maxRecDepth 100000 in
theorem tw_1241 : (Cond.instanceMethod yX8_keenMark) ∈ lw_tbl := ch_5 _ (List.mem_of_getElem? (l := tables_1_5) (i := 215) rfl)
set_option maxRecDepth 100000 in
theorem tw_1242 : (Cond.code yX8_keenMark cX8_keenMark 4 (some .int)) ∈ lw_tbl := ch_5 _ (List.mem_of_getElem? (l := tables_1_5) (i := 216) rfl)
set_option maxRecDepth 100000 in
theorem tw_1243 : (Cond.methodLink RX8 253 yX8_deafMark) ∈ lw_tbl := ch_5 _ (List.mem_of_getElem? (l := tables_1_5) (i := 217) rfl)
set_option maxRecDepth 100000 in
theorem tw_1245 : (Cond.instanceMethod yX8_deafMark) ∈ lw_tbl := ch_5 _ (List.mem_of_getElem? (l := tables_1_5) (i := 219) rfl)
set_option maxRecDepth 100000 in
theorem tw_1246 : (Cond.code yX8_deafMark cX8_deafMark 2 (some .int)) ∈ lw_tbl := ch_5 _ (List.mem_of_getElem? (l := tables_1_5) (i := 220) rfl)
set_option maxRecDepth 100000 in
theorem tw_1247 : (Cond.methodLink RL 166 yX8_trace) ∈ lw_tbl := ch_5 _ (List.mem_of_getElem? (l := tables_1_5) (i := 221) rfl)
set_option maxRecDepth 100000 in
theorem tw_1248 : (Cond.instanceMethod yX8_trace) ∈ lw_tbl := ch_5 _ (List.mem_of_getElem? (l := tables_1_5) (i := 222) rfl)
set_option maxRecDepth 100000 in
theorem tw_1249 : (Cond.selects RX8 yX8_trace yX8_trace) ∈ lw_tbl := ch_5 _ (List.mem_of_getElem? (l := tables_1_5) (i := 223) rfl)
set_option maxRecDepth 100000 in
theorem tw_1250 : (Cond.code yX8_trace cX8_trace 2 (some .int)) ∈ lw_tbl := ch_5 _ (List.mem_of_getElem? (l := tables_1_5) (i := 224) rfl)
set_option maxRecDepth 100000 in
theorem tw_1251 : (Cond.methodLink RL 170 yX8_count) ∈ lw_tbl := ch_5 _ (List.mem_of_getElem? (l := tables_1_5) (i := 225) rfl)
set_option maxRecDepth 100000 in
theorem tw_1252 : (Cond.instanceMethod yX8_count) ∈ lw_tbl := ch_5 _ (List.mem_of_getElem? (l := tables_1_5) (i := 226) rfl)
set_option maxRecDepth 100000 in
theorem tw_1253 : (Cond.selects RX8 yX8_count yX8_count) ∈ lw_tbl := ch_5 _ (List.mem_of_getElem? (l := tables_1_5) (i := 227) rfl)
set_option maxRecDepth 100000 in
theorem tw_1254 : (Cond.code yX8_count cX8_count 4 (some .int)) ∈ lw_tbl := ch_5 _ (List.mem_of_getElem? (l := tables_1_5) (i := 228) rfl)
set_option maxRecDepth 100000 in
theorem tw_1255 : (Cond.methodLink RL 174 yX8_status) ∈ lw_tbl := ch_5 _ (List.mem_of_getElem? (l := tables_1_5) (i := 229) rfl)
set_option maxRecDepth 100000 in
theorem tw_1256 : (Cond.instanceMethod yX8_status) ∈ lw_tbl := ch_5 _ (List.mem_of_getElem? (l := tables_1_5) (i := 230) rfl)
set_option maxRecDepth 100000 in
theorem tw_1257 : (Cond.selects RX8 yX8_status yX8_status) ∈ lw_tbl := ch_5 _ (List.mem_of_getElem? (l := tables_1_5) (i := 231) rfl)
set_option maxRecDepth 100000 in
theorem tw_1258 : (Cond.code yX8_status cX8_status 1 (some .int)) ∈ lw_tbl := ch_5 _ (List.mem_of_getElem? (l := tables_1_5) (i := 232) rfl)
theorem it_b0 : ∀ w ∈ bkV RX0 25 RX4 yX4_become, w ∈ lw_tbl := List.forall_mem_cons.mpr ⟨tw_476, List.forall_mem_cons.mpr ⟨tw_451, List.forall_mem_cons.mpr ⟨tw_452, List.forall_mem_cons.mpr ⟨tw_70, fun _ h => absurd h List.not_mem_nil⟩⟩⟩⟩
theorem it_b1 : ∀ w ∈ bkV RX1 34 RX1 yX1_sizeBody, w ∈ lw_tbl := List.forall_mem_cons.mpr ⟨tw_791, List.forall_mem_cons.mpr ⟨tw_793, List.forall_mem_cons.mpr ⟨tw_23, List.forall_mem_cons.mpr ⟨tw_73, fun _ h => absurd h List.not_mem_nil⟩⟩⟩⟩
theorem it_b2 : ∀ w ∈ bkV RX1 38 RX1 yX1_markBody, w ∈ lw_tbl := List.forall_mem_cons.mpr ⟨tw_797, List.forall_mem_cons.mpr ⟨tw_799, List.forall_mem_cons.mpr ⟨tw_24, List.forall_mem_cons.mpr ⟨tw_73, fun _ h => absurd h List.not_mem_nil⟩⟩⟩⟩
theorem it_b3 : ∀ w ∈ bkS RX1 41 yX1_given, w ∈ lw_tbl := List.forall_mem_cons.mpr ⟨tw_803, List.forall_mem_cons.mpr ⟨tw_804, List.forall_mem_cons.mpr ⟨tw_73, fun _ h => absurd h List.not_mem_nil⟩⟩⟩
theorem it_b4 : ∀ w ∈ bkV RX1 51 RX1 yX1_leave, w ∈ lw_tbl := List.forall_mem_cons.mpr ⟨tw_806, List.forall_mem_cons.mpr ⟨tw_808, List.forall_mem_cons.mpr ⟨tw_25, List.forall_mem_cons.mpr ⟨tw_73, fun _ h => absurd h List.not_mem_nil⟩⟩⟩⟩
theorem it_b5 : ∀ w ∈ bkV RX2 34 RX4 yX4_become, w ∈ lw_tbl := List.forall_mem_cons.mpr ⟨tw_450, List.forall_mem_cons.mpr ⟨tw_451, List.forall_mem_cons.mpr ⟨tw_452, List.forall_mem_cons.mpr ⟨tw_70, fun _ h => absurd h List.not_mem_nil⟩⟩⟩⟩
theorem it_b6 : ∀ w ∈ bkV RX2 61 RX2 yX2_secretBy, w ∈ lw_tbl := List.forall_mem_cons.mpr ⟨tw_488, List.forall_mem_cons.mpr ⟨tw_489, List.forall_mem_cons.mpr ⟨tw_490, List.forall_mem_cons.mpr ⟨tw_69, fun _ h => absurd h List.not_mem_nil⟩⟩⟩⟩
theorem it_b7 : ∀ w ∈ bkV RX2 68 RX2 yX2_distance, w ∈ lw_tbl := List.forall_mem_cons.mpr ⟨tw_529, List.forall_mem_cons.mpr ⟨tw_429, List.forall_mem_cons.mpr ⟨tw_430, List.forall_mem_cons.mpr ⟨tw_69, fun _ h => absurd h List.not_mem_nil⟩⟩⟩⟩
theorem it_b8 : ∀ w ∈ bkV RX2 71 RX2 yX2_lips, w ∈ lw_tbl := List.forall_mem_cons.mpr ⟨tw_530, List.forall_mem_cons.mpr ⟨tw_531, List.forall_mem_cons.mpr ⟨tw_532, List.forall_mem_cons.mpr ⟨tw_69, fun _ h => absurd h List.not_mem_nil⟩⟩⟩⟩
theorem it_b9 : ∀ w ∈ bkV RX2 74 RX2 yX2_guardOn, w ∈ lw_tbl := List.forall_mem_cons.mpr ⟨tw_520, List.forall_mem_cons.mpr ⟨tw_508, List.forall_mem_cons.mpr ⟨tw_509, List.forall_mem_cons.mpr ⟨tw_69, fun _ h => absurd h List.not_mem_nil⟩⟩⟩⟩
theorem it_b10 : ∀ w ∈ bkV RX2 77 RX2 yX2_isThere, w ∈ lw_tbl := List.forall_mem_cons.mpr ⟨tw_521, List.forall_mem_cons.mpr ⟨tw_522, List.forall_mem_cons.mpr ⟨tw_523, List.forall_mem_cons.mpr ⟨tw_69, fun _ h => absurd h List.not_mem_nil⟩⟩⟩⟩
theorem it_b11 : ∀ w ∈ bkV RX2 81 RX2 yX2_wouldTake, w ∈ lw_tbl := List.forall_mem_cons.mpr ⟨tw_525, List.forall_mem_cons.mpr ⟨tw_526, List.forall_mem_cons.mpr ⟨tw_527, List.forall_mem_cons.mpr ⟨tw_69, fun _ h => absurd h List.not_mem_nil⟩⟩⟩⟩
theorem it_b12 : ∀ w ∈ bkV RX2 85 RX2 yX2_secretIn, w ∈ lw_tbl := List.forall_mem_cons.mpr ⟨tw_515, List.forall_mem_cons.mpr ⟨tw_485, List.forall_mem_cons.mpr ⟨tw_486, List.forall_mem_cons.mpr ⟨tw_69, fun _ h => absurd h List.not_mem_nil⟩⟩⟩⟩
theorem it_b13 : ∀ w ∈ bkV RX2 89 RX2 yX2_catchesIf, w ∈ lw_tbl := List.forall_mem_cons.mpr ⟨tw_516, List.forall_mem_cons.mpr ⟨tw_517, List.forall_mem_cons.mpr ⟨tw_518, List.forall_mem_cons.mpr ⟨tw_69, fun _ h => absurd h List.not_mem_nil⟩⟩⟩⟩
theorem it_b14 : ∀ w ∈ bkV RX2 96 RX2 yX2_catches, w ∈ lw_tbl := List.forall_mem_cons.mpr ⟨tw_607, List.forall_mem_cons.mpr ⟨tw_512, List.forall_mem_cons.mpr ⟨tw_513, List.forall_mem_cons.mpr ⟨tw_69, fun _ h => absurd h List.not_mem_nil⟩⟩⟩⟩
theorem it_b15 : ∀ w ∈ bkV RX2 100 RX2 yX2_wordsIn, w ∈ lw_tbl := List.forall_mem_cons.mpr ⟨tw_620, List.forall_mem_cons.mpr ⟨tw_604, List.forall_mem_cons.mpr ⟨tw_605, List.forall_mem_cons.mpr ⟨tw_69, fun _ h => absurd h List.not_mem_nil⟩⟩⟩⟩
theorem it_b16 : ∀ w ∈ bkS RX3 24 yX3_agreesWithTries, w ∈ lw_tbl := List.forall_mem_cons.mpr ⟨tw_637, List.forall_mem_cons.mpr ⟨tw_638, List.forall_mem_cons.mpr ⟨tw_72, fun _ h => absurd h List.not_mem_nil⟩⟩⟩
theorem it_b17 : ∀ w ∈ bkV RX3 56 RX2 yX2_wouldTake, w ∈ lw_tbl := List.forall_mem_cons.mpr ⟨tw_640, List.forall_mem_cons.mpr ⟨tw_526, List.forall_mem_cons.mpr ⟨tw_527, List.forall_mem_cons.mpr ⟨tw_69, fun _ h => absurd h List.not_mem_nil⟩⟩⟩⟩
theorem it_b18 : ∀ w ∈ bkV RX3 63 RX2 yX2_catchesIf, w ∈ lw_tbl := List.forall_mem_cons.mpr ⟨tw_655, List.forall_mem_cons.mpr ⟨tw_517, List.forall_mem_cons.mpr ⟨tw_518, List.forall_mem_cons.mpr ⟨tw_69, fun _ h => absurd h List.not_mem_nil⟩⟩⟩⟩
theorem it_b19 : ∀ w ∈ bkS RX3 66 yX3_secretsCatching, w ∈ lw_tbl := List.forall_mem_cons.mpr ⟨tw_652, List.forall_mem_cons.mpr ⟨tw_653, List.forall_mem_cons.mpr ⟨tw_72, fun _ h => absurd h List.not_mem_nil⟩⟩⟩
theorem it_b20 : ∀ w ∈ bkS RX3 70 yJ6_bitCount_0f7a4, w ∈ lw_tbl := List.forall_mem_cons.mpr ⟨tw_656, List.forall_mem_cons.mpr ⟨tw_657, List.forall_mem_cons.mpr ⟨tw_78, fun _ h => absurd h List.not_mem_nil⟩⟩⟩
theorem it_b21 : ∀ w ∈ bkS RX3 82 yX3_leftAtWorst, w ∈ lw_tbl := List.forall_mem_cons.mpr ⟨tw_649, List.forall_mem_cons.mpr ⟨tw_650, List.forall_mem_cons.mpr ⟨tw_72, fun _ h => absurd h List.not_mem_nil⟩⟩⟩
theorem it_b22 : ∀ w ∈ bkV RX3 85 RX3 yX3_menToSplit, w ∈ lw_tbl := List.forall_mem_cons.mpr ⟨tw_674, List.forall_mem_cons.mpr ⟨tw_676, List.forall_mem_cons.mpr ⟨tw_17, List.forall_mem_cons.mpr ⟨tw_72, fun _ h => absurd h List.not_mem_nil⟩⟩⟩⟩
theorem it_b23 : ∀ w ∈ bkV RX5 22 RX5 yX5_reaches, w ∈ lw_tbl := List.forall_mem_cons.mpr ⟨tw_360, List.forall_mem_cons.mpr ⟨tw_361, List.forall_mem_cons.mpr ⟨tw_362, List.forall_mem_cons.mpr ⟨tw_74, fun _ h => absurd h List.not_mem_nil⟩⟩⟩⟩
theorem it_b24 : ∀ w ∈ bkV RX6 35 RX6 yX6_readLaw, w ∈ lw_tbl := List.forall_mem_cons.mpr ⟨tw_397, List.forall_mem_cons.mpr ⟨tw_399, List.forall_mem_cons.mpr ⟨tw_3, List.forall_mem_cons.mpr ⟨tw_68, fun _ h => absurd h List.not_mem_nil⟩⟩⟩⟩
theorem it_b25 : ∀ w ∈ bkV RX6 39 RX6 yX6_readWord, w ∈ lw_tbl := List.forall_mem_cons.mpr ⟨tw_420, List.forall_mem_cons.mpr ⟨tw_422, List.forall_mem_cons.mpr ⟨tw_8, List.forall_mem_cons.mpr ⟨tw_68, fun _ h => absurd h List.not_mem_nil⟩⟩⟩⟩
theorem it_b26 : ∀ w ∈ bkV RX6 42 RX6 yX6_here, w ∈ lw_tbl := List.forall_mem_cons.mpr ⟨tw_405, List.forall_mem_cons.mpr ⟨tw_407, List.forall_mem_cons.mpr ⟨tw_5, List.forall_mem_cons.mpr ⟨tw_68, fun _ h => absurd h List.not_mem_nil⟩⟩⟩⟩
theorem it_b27 : ∀ w ∈ bkV RX6 46 RX6 yX6_readGuard, w ∈ lw_tbl := List.forall_mem_cons.mpr ⟨tw_432, List.forall_mem_cons.mpr ⟨tw_434, List.forall_mem_cons.mpr ⟨tw_10, List.forall_mem_cons.mpr ⟨tw_68, fun _ h => absurd h List.not_mem_nil⟩⟩⟩⟩
theorem it_b28 : ∀ w ∈ bkV RX6 53 RX4 yX4_begin, w ∈ lw_tbl := List.forall_mem_cons.mpr ⟨tw_440, List.forall_mem_cons.mpr ⟨tw_441, List.forall_mem_cons.mpr ⟨tw_442, List.forall_mem_cons.mpr ⟨tw_70, fun _ h => absurd h List.not_mem_nil⟩⟩⟩⟩
theorem it_b29 : ∀ w ∈ bkV RX6 59 RX6 yX6_readSign, w ∈ lw_tbl := List.forall_mem_cons.mpr ⟨tw_401, List.forall_mem_cons.mpr ⟨tw_403, List.forall_mem_cons.mpr ⟨tw_4, List.forall_mem_cons.mpr ⟨tw_68, fun _ h => absurd h List.not_mem_nil⟩⟩⟩⟩
theorem it_b30 : ∀ w ∈ bkV RX6 63 RX6 yX6_readNumber, w ∈ lw_tbl := List.forall_mem_cons.mpr ⟨tw_413, List.forall_mem_cons.mpr ⟨tw_415, List.forall_mem_cons.mpr ⟨tw_7, List.forall_mem_cons.mpr ⟨tw_68, fun _ h => absurd h List.not_mem_nil⟩⟩⟩⟩
theorem it_b31 : ∀ w ∈ bkV RX6 78 RX6 yX6_faulty, w ∈ lw_tbl := List.forall_mem_cons.mpr ⟨tw_409, List.forall_mem_cons.mpr ⟨tw_411, List.forall_mem_cons.mpr ⟨tw_6, List.forall_mem_cons.mpr ⟨tw_68, fun _ h => absurd h List.not_mem_nil⟩⟩⟩⟩
theorem it_b32 : ∀ w ∈ bkV RX6 84 RX6 yX6_wasTold, w ∈ lw_tbl := List.forall_mem_cons.mpr ⟨tw_424, List.forall_mem_cons.mpr ⟨tw_426, List.forall_mem_cons.mpr ⟨tw_9, List.forall_mem_cons.mpr ⟨tw_68, fun _ h => absurd h List.not_mem_nil⟩⟩⟩⟩
theorem it_b33 : ∀ w ∈ bkV RX6 87 RX2 yX2_distance, w ∈ lw_tbl := List.forall_mem_cons.mpr ⟨tw_428, List.forall_mem_cons.mpr ⟨tw_429, List.forall_mem_cons.mpr ⟨tw_430, List.forall_mem_cons.mpr ⟨tw_69, fun _ h => absurd h List.not_mem_nil⟩⟩⟩⟩
theorem it_b34 : ∀ w ∈ bkS RX6 91 yX6_kindOf, w ∈ lw_tbl := List.forall_mem_cons.mpr ⟨tw_436, List.forall_mem_cons.mpr ⟨tw_437, List.forall_mem_cons.mpr ⟨tw_68, fun _ h => absurd h List.not_mem_nil⟩⟩⟩
theorem it_b35 : ∀ w ∈ bkS RX6 102 yX6_isFigure, w ∈ lw_tbl := List.forall_mem_cons.mpr ⟨tw_417, List.forall_mem_cons.mpr ⟨tw_418, List.forall_mem_cons.mpr ⟨tw_68, fun _ h => absurd h List.not_mem_nil⟩⟩⟩
theorem it_b36 : ∀ w ∈ bkV RX7 55 RX7 yX7_isRow, w ∈ lw_tbl := List.forall_mem_cons.mpr ⟨tw_334, List.forall_mem_cons.mpr ⟨tw_336, List.forall_mem_cons.mpr ⟨tw_0, List.forall_mem_cons.mpr ⟨tw_67, fun _ h => absurd h List.not_mem_nil⟩⟩⟩⟩
theorem it_b37 : ∀ w ∈ bkV RX7 60 RX7 yX7_found, w ∈ lw_tbl := List.forall_mem_cons.mpr ⟨tw_339, List.forall_mem_cons.mpr ⟨tw_341, List.forall_mem_cons.mpr ⟨tw_1, List.forall_mem_cons.mpr ⟨tw_67, fun _ h => absurd h List.not_mem_nil⟩⟩⟩⟩
theorem it_b38 : ∀ w ∈ bkV RX7 64 RX5 yX5_make, w ∈ lw_tbl := List.forall_mem_cons.mpr ⟨tw_344, List.forall_mem_cons.mpr ⟨tw_345, List.forall_mem_cons.mpr ⟨tw_346, List.forall_mem_cons.mpr ⟨tw_74, fun _ h => absurd h List.not_mem_nil⟩⟩⟩⟩
theorem it_b39 : ∀ w ∈ bkV RX7 68 RX7 yX7_unfound, w ∈ lw_tbl := List.forall_mem_cons.mpr ⟨tw_348, List.forall_mem_cons.mpr ⟨tw_350, List.forall_mem_cons.mpr ⟨tw_2, List.forall_mem_cons.mpr ⟨tw_67, fun _ h => absurd h List.not_mem_nil⟩⟩⟩⟩
theorem it_b40 : ∀ w ∈ bkV RX7 71 RX5 yX5_findingOf, w ∈ lw_tbl := List.forall_mem_cons.mpr ⟨tw_356, List.forall_mem_cons.mpr ⟨tw_357, List.forall_mem_cons.mpr ⟨tw_358, List.forall_mem_cons.mpr ⟨tw_74, fun _ h => absurd h List.not_mem_nil⟩⟩⟩⟩
theorem it_b41 : ∀ w ∈ bkV RX7 75 RX5 yX5_put, w ∈ lw_tbl := List.forall_mem_cons.mpr ⟨tw_364, List.forall_mem_cons.mpr ⟨tw_365, List.forall_mem_cons.mpr ⟨tw_366, List.forall_mem_cons.mpr ⟨tw_74, fun _ h => absurd h List.not_mem_nil⟩⟩⟩⟩
theorem it_b42 : ∀ w ∈ bkV RX7 82 RX5 yX5_reaches, w ∈ lw_tbl := List.forall_mem_cons.mpr ⟨tw_372, List.forall_mem_cons.mpr ⟨tw_361, List.forall_mem_cons.mpr ⟨tw_362, List.forall_mem_cons.mpr ⟨tw_74, fun _ h => absurd h List.not_mem_nil⟩⟩⟩⟩
theorem it_b43 : ∀ w ∈ bkV RX7 99 RX6 yX6_append, w ∈ lw_tbl := List.forall_mem_cons.mpr ⟨tw_384, List.forall_mem_cons.mpr ⟨tw_385, List.forall_mem_cons.mpr ⟨tw_386, List.forall_mem_cons.mpr ⟨tw_68, fun _ h => absurd h List.not_mem_nil⟩⟩⟩⟩
theorem it_b44 : ∀ w ∈ bkV RX7 106 RX6 yX6_read, w ∈ lw_tbl := List.forall_mem_cons.mpr ⟨tw_393, List.forall_mem_cons.mpr ⟨tw_394, List.forall_mem_cons.mpr ⟨tw_395, List.forall_mem_cons.mpr ⟨tw_68, fun _ h => absurd h List.not_mem_nil⟩⟩⟩⟩
theorem it_b45 : ∀ w ∈ bkV RX7 123 RX2 yX2_become, w ∈ lw_tbl := List.forall_mem_cons.mpr ⟨tw_445, List.forall_mem_cons.mpr ⟨tw_446, List.forall_mem_cons.mpr ⟨tw_447, List.forall_mem_cons.mpr ⟨tw_69, fun _ h => absurd h List.not_mem_nil⟩⟩⟩⟩
theorem it_b46 : ∀ w ∈ bkV RX7 127 RX0 yX0_forget, w ∈ lw_tbl := List.forall_mem_cons.mpr ⟨tw_455, List.forall_mem_cons.mpr ⟨tw_456, List.forall_mem_cons.mpr ⟨tw_457, List.forall_mem_cons.mpr ⟨tw_71, fun _ h => absurd h List.not_mem_nil⟩⟩⟩⟩
theorem it_b47 : ∀ w ∈ bkV RX7 133 RX7 yX7_noGate, w ∈ lw_tbl := List.forall_mem_cons.mpr ⟨tw_467, List.forall_mem_cons.mpr ⟨tw_469, List.forall_mem_cons.mpr ⟨tw_11, List.forall_mem_cons.mpr ⟨tw_67, fun _ h => absurd h List.not_mem_nil⟩⟩⟩⟩
theorem it_b48 : ∀ w ∈ bkV RX7 146 RX0 yX0_keep, w ∈ lw_tbl := List.forall_mem_cons.mpr ⟨tw_472, List.forall_mem_cons.mpr ⟨tw_473, List.forall_mem_cons.mpr ⟨tw_474, List.forall_mem_cons.mpr ⟨tw_71, fun _ h => absurd h List.not_mem_nil⟩⟩⟩⟩
theorem it_b49 : ∀ w ∈ bkV RX7 150 RX4 yX4_goBy, w ∈ lw_tbl := List.forall_mem_cons.mpr ⟨tw_480, List.forall_mem_cons.mpr ⟨tw_481, List.forall_mem_cons.mpr ⟨tw_482, List.forall_mem_cons.mpr ⟨tw_70, fun _ h => absurd h List.not_mem_nil⟩⟩⟩⟩
theorem it_b50 : ∀ w ∈ bkV RX7 153 RX2 yX2_secretIn, w ∈ lw_tbl := List.forall_mem_cons.mpr ⟨tw_484, List.forall_mem_cons.mpr ⟨tw_485, List.forall_mem_cons.mpr ⟨tw_486, List.forall_mem_cons.mpr ⟨tw_69, fun _ h => absurd h List.not_mem_nil⟩⟩⟩⟩
theorem it_b51 : ∀ w ∈ bkV RX7 156 RX7 yX7_isWord, w ∈ lw_tbl := List.forall_mem_cons.mpr ⟨tw_499, List.forall_mem_cons.mpr ⟨tw_501, List.forall_mem_cons.mpr ⟨tw_12, List.forall_mem_cons.mpr ⟨tw_67, fun _ h => absurd h List.not_mem_nil⟩⟩⟩⟩
theorem it_b52 : ∀ w ∈ bkV RX7 159 RX7 yX7_isHour, w ∈ lw_tbl := List.forall_mem_cons.mpr ⟨tw_503, List.forall_mem_cons.mpr ⟨tw_505, List.forall_mem_cons.mpr ⟨tw_13, List.forall_mem_cons.mpr ⟨tw_67, fun _ h => absurd h List.not_mem_nil⟩⟩⟩⟩
theorem it_b53 : ∀ w ∈ bkV RX7 165 RX2 yX2_guardOn, w ∈ lw_tbl := List.forall_mem_cons.mpr ⟨tw_507, List.forall_mem_cons.mpr ⟨tw_508, List.forall_mem_cons.mpr ⟨tw_509, List.forall_mem_cons.mpr ⟨tw_69, fun _ h => absurd h List.not_mem_nil⟩⟩⟩⟩
theorem it_b54 : ∀ w ∈ bkV RX7 168 RX2 yX2_catches, w ∈ lw_tbl := List.forall_mem_cons.mpr ⟨tw_511, List.forall_mem_cons.mpr ⟨tw_512, List.forall_mem_cons.mpr ⟨tw_513, List.forall_mem_cons.mpr ⟨tw_69, fun _ h => absurd h List.not_mem_nil⟩⟩⟩⟩
theorem it_b55 : ∀ w ∈ bkV RX7 172 RX2 yX2_isThere, w ∈ lw_tbl := List.forall_mem_cons.mpr ⟨tw_534, List.forall_mem_cons.mpr ⟨tw_522, List.forall_mem_cons.mpr ⟨tw_523, List.forall_mem_cons.mpr ⟨tw_69, fun _ h => absurd h List.not_mem_nil⟩⟩⟩⟩
theorem it_b56 : ∀ w ∈ bkV RX7 176 RX4 yX4_addTry, w ∈ lw_tbl := List.forall_mem_cons.mpr ⟨tw_536, List.forall_mem_cons.mpr ⟨tw_537, List.forall_mem_cons.mpr ⟨tw_538, List.forall_mem_cons.mpr ⟨tw_70, fun _ h => absurd h List.not_mem_nil⟩⟩⟩⟩
theorem it_b57 : ∀ w ∈ bkS RX7 180 yX7_bit, w ∈ lw_tbl := List.forall_mem_cons.mpr ⟨tw_543, List.forall_mem_cons.mpr ⟨tw_541, List.forall_mem_cons.mpr ⟨tw_67, fun _ h => absurd h List.not_mem_nil⟩⟩⟩
theorem it_b58 : ∀ w ∈ bkV RX7 187 RX7 yX7_isGuard, w ∈ lw_tbl := List.forall_mem_cons.mpr ⟨tw_552, List.forall_mem_cons.mpr ⟨tw_554, List.forall_mem_cons.mpr ⟨tw_14, List.forall_mem_cons.mpr ⟨tw_67, fun _ h => absurd h List.not_mem_nil⟩⟩⟩⟩
theorem it_b59 : ∀ w ∈ bkV RX7 193 RX0 yX0_takeBack, w ∈ lw_tbl := List.forall_mem_cons.mpr ⟨tw_560, List.forall_mem_cons.mpr ⟨tw_561, List.forall_mem_cons.mpr ⟨tw_562, List.forall_mem_cons.mpr ⟨tw_71, fun _ h => absurd h List.not_mem_nil⟩⟩⟩⟩
theorem it_b60 : ∀ w ∈ bkV RX7 203 RX2 yX2_distance, w ∈ lw_tbl := List.forall_mem_cons.mpr ⟨tw_572, List.forall_mem_cons.mpr ⟨tw_429, List.forall_mem_cons.mpr ⟨tw_430, List.forall_mem_cons.mpr ⟨tw_69, fun _ h => absurd h List.not_mem_nil⟩⟩⟩⟩
theorem it_b61 : ∀ w ∈ bkV RX7 206 RX2 yX2_lips, w ∈ lw_tbl := List.forall_mem_cons.mpr ⟨tw_573, List.forall_mem_cons.mpr ⟨tw_531, List.forall_mem_cons.mpr ⟨tw_532, List.forall_mem_cons.mpr ⟨tw_69, fun _ h => absurd h List.not_mem_nil⟩⟩⟩⟩
theorem it_b62 : ∀ w ∈ bkV RX7 215 RX2 yX2_hoursOf, w ∈ lw_tbl := List.forall_mem_cons.mpr ⟨tw_578, List.forall_mem_cons.mpr ⟨tw_579, List.forall_mem_cons.mpr ⟨tw_580, List.forall_mem_cons.mpr ⟨tw_69, fun _ h => absurd h List.not_mem_nil⟩⟩⟩⟩
theorem it_b63 : ∀ w ∈ bkV RX7 227 RX7 yX7_isAhead, w ∈ lw_tbl := List.forall_mem_cons.mpr ⟨tw_591, List.forall_mem_cons.mpr ⟨tw_593, List.forall_mem_cons.mpr ⟨tw_15, List.forall_mem_cons.mpr ⟨tw_67, fun _ h => absurd h List.not_mem_nil⟩⟩⟩⟩
theorem it_b64 : ∀ w ∈ bkV RX7 230 RX2 yX2_wordsIn, w ∈ lw_tbl := List.forall_mem_cons.mpr ⟨tw_603, List.forall_mem_cons.mpr ⟨tw_604, List.forall_mem_cons.mpr ⟨tw_605, List.forall_mem_cons.mpr ⟨tw_69, fun _ h => absurd h List.not_mem_nil⟩⟩⟩⟩
theorem it_b65 : ∀ w ∈ bkV RX7 233 RX7 yX7_areWords, w ∈ lw_tbl := List.forall_mem_cons.mpr ⟨tw_612, List.forall_mem_cons.mpr ⟨tw_614, List.forall_mem_cons.mpr ⟨tw_16, List.forall_mem_cons.mpr ⟨tw_67, fun _ h => absurd h List.not_mem_nil⟩⟩⟩⟩
theorem it_b66 : ∀ w ∈ bkV RX7 236 RX2 yX2_hoursOpen, w ∈ lw_tbl := List.forall_mem_cons.mpr ⟨tw_616, List.forall_mem_cons.mpr ⟨tw_617, List.forall_mem_cons.mpr ⟨tw_618, List.forall_mem_cons.mpr ⟨tw_69, fun _ h => absurd h List.not_mem_nil⟩⟩⟩⟩
theorem it_b67 : ∀ w ∈ bkV RX7 239 RX2 yX2_nightsUntil, w ∈ lw_tbl := List.forall_mem_cons.mpr ⟨tw_625, List.forall_mem_cons.mpr ⟨tw_626, List.forall_mem_cons.mpr ⟨tw_627, List.forall_mem_cons.mpr ⟨tw_69, fun _ h => absurd h List.not_mem_nil⟩⟩⟩⟩
theorem it_b68 : ∀ w ∈ bkS RX7 242 yX3_agreeing, w ∈ lw_tbl := List.forall_mem_cons.mpr ⟨tw_634, List.forall_mem_cons.mpr ⟨tw_635, List.forall_mem_cons.mpr ⟨tw_72, fun _ h => absurd h List.not_mem_nil⟩⟩⟩
theorem it_b69 : ∀ w ∈ bkS RX7 246 yX3_bestTry, w ∈ lw_tbl := List.forall_mem_cons.mpr ⟨tw_646, List.forall_mem_cons.mpr ⟨tw_647, List.forall_mem_cons.mpr ⟨tw_72, fun _ h => absurd h List.not_mem_nil⟩⟩⟩
theorem it_b70 : ∀ w ∈ bkS RX7 250 yX3_leftAtWorst, w ∈ lw_tbl := List.forall_mem_cons.mpr ⟨tw_665, List.forall_mem_cons.mpr ⟨tw_650, List.forall_mem_cons.mpr ⟨tw_72, fun _ h => absurd h List.not_mem_nil⟩⟩⟩
theorem it_b71 : ∀ w ∈ bkV RX7 254 RX3 yX3_fewestMen, w ∈ lw_tbl := List.forall_mem_cons.mpr ⟨tw_670, List.forall_mem_cons.mpr ⟨tw_671, List.forall_mem_cons.mpr ⟨tw_672, List.forall_mem_cons.mpr ⟨tw_72, fun _ h => absurd h List.not_mem_nil⟩⟩⟩⟩
theorem it_b72 : ∀ w ∈ bkV RX7 257 RX7 yX7_hourOfLast, w ∈ lw_tbl := List.forall_mem_cons.mpr ⟨tw_684, List.forall_mem_cons.mpr ⟨tw_686, List.forall_mem_cons.mpr ⟨tw_18, List.forall_mem_cons.mpr ⟨tw_67, fun _ h => absurd h List.not_mem_nil⟩⟩⟩⟩
theorem it_b73 : ∀ w ∈ bkV RX7 261 RX2 yX2_guardsAgainst, w ∈ lw_tbl := List.forall_mem_cons.mpr ⟨tw_696, List.forall_mem_cons.mpr ⟨tw_697, List.forall_mem_cons.mpr ⟨tw_698, List.forall_mem_cons.mpr ⟨tw_69, fun _ h => absurd h List.not_mem_nil⟩⟩⟩⟩
theorem it_b74 : ∀ w ∈ bkV RX7 264 RX2 yX2_feeOf, w ∈ lw_tbl := List.forall_mem_cons.mpr ⟨tw_700, List.forall_mem_cons.mpr ⟨tw_701, List.forall_mem_cons.mpr ⟨tw_702, List.forall_mem_cons.mpr ⟨tw_69, fun _ h => absurd h List.not_mem_nil⟩⟩⟩⟩
theorem it_b75 : ∀ w ∈ bkV RX7 267 RX2 yX2_nearestTo, w ∈ lw_tbl := List.forall_mem_cons.mpr ⟨tw_708, List.forall_mem_cons.mpr ⟨tw_709, List.forall_mem_cons.mpr ⟨tw_710, List.forall_mem_cons.mpr ⟨tw_69, fun _ h => absurd h List.not_mem_nil⟩⟩⟩⟩
theorem it_b76 : ∀ w ∈ bkV RX7 270 RX7 yX7_rulesThatTell, w ∈ lw_tbl := List.forall_mem_cons.mpr ⟨tw_716, List.forall_mem_cons.mpr ⟨tw_718, List.forall_mem_cons.mpr ⟨tw_19, List.forall_mem_cons.mpr ⟨tw_67, fun _ h => absurd h List.not_mem_nil⟩⟩⟩⟩
theorem it_b77 : ∀ w ∈ bkV RX7 274 RX7 yX7_kindsThatFit, w ∈ lw_tbl := List.forall_mem_cons.mpr ⟨tw_725, List.forall_mem_cons.mpr ⟨tw_727, List.forall_mem_cons.mpr ⟨tw_20, List.forall_mem_cons.mpr ⟨tw_67, fun _ h => absurd h List.not_mem_nil⟩⟩⟩⟩
theorem it_b78 : ∀ w ∈ bkV RX7 281 RX7 yX7_secretsThatFit, w ∈ lw_tbl := List.forall_mem_cons.mpr ⟨tw_734, List.forall_mem_cons.mpr ⟨tw_736, List.forall_mem_cons.mpr ⟨tw_22, List.forall_mem_cons.mpr ⟨tw_67, fun _ h => absurd h List.not_mem_nil⟩⟩⟩⟩
theorem it_b79 : ∀ w ∈ bkS RX7 285 yJ6_bitCount_0f7a4, w ∈ lw_tbl := List.forall_mem_cons.mpr ⟨tw_742, List.forall_mem_cons.mpr ⟨tw_657, List.forall_mem_cons.mpr ⟨tw_78, fun _ h => absurd h List.not_mem_nil⟩⟩⟩
theorem it_b80 : ∀ w ∈ bkS RX7 290 yX3_secretsCatching, w ∈ lw_tbl := List.forall_mem_cons.mpr ⟨tw_743, List.forall_mem_cons.mpr ⟨tw_653, List.forall_mem_cons.mpr ⟨tw_72, fun _ h => absurd h List.not_mem_nil⟩⟩⟩
theorem it_b81 : ∀ w ∈ bkS RX7 293 yX7_commonDivisor, w ∈ lw_tbl := List.forall_mem_cons.mpr ⟨tw_744, List.forall_mem_cons.mpr ⟨tw_745, List.forall_mem_cons.mpr ⟨tw_67, fun _ h => absurd h List.not_mem_nil⟩⟩⟩
theorem it_b82 : ∀ w ∈ bkS RX7 296 yX7_lowest, w ∈ lw_tbl := List.forall_mem_cons.mpr ⟨tw_747, List.forall_mem_cons.mpr ⟨tw_748, List.forall_mem_cons.mpr ⟨tw_67, fun _ h => absurd h List.not_mem_nil⟩⟩⟩
theorem it_b83 : ∀ w ∈ bkS RX7 304 yX7_rest, w ∈ lw_tbl := List.forall_mem_cons.mpr ⟨tw_757, List.forall_mem_cons.mpr ⟨tw_493, List.forall_mem_cons.mpr ⟨tw_67, fun _ h => absurd h List.not_mem_nil⟩⟩⟩
theorem it_b84 : ∀ w ∈ bkS RX7 307 yX1_isA, w ∈ lw_tbl := List.forall_mem_cons.mpr ⟨tw_774, List.forall_mem_cons.mpr ⟨tw_775, List.forall_mem_cons.mpr ⟨tw_73, fun _ h => absurd h List.not_mem_nil⟩⟩⟩
theorem it_b85 : ∀ w ∈ bkV RX7 310 RX1 yX1_turnTo, w ∈ lw_tbl := List.forall_mem_cons.mpr ⟨tw_783, List.forall_mem_cons.mpr ⟨tw_784, List.forall_mem_cons.mpr ⟨tw_785, List.forall_mem_cons.mpr ⟨tw_73, fun _ h => absurd h List.not_mem_nil⟩⟩⟩⟩
theorem it_b86 : ∀ w ∈ bkV RX7 314 RX1 yX1_answer, w ∈ lw_tbl := List.forall_mem_cons.mpr ⟨tw_787, List.forall_mem_cons.mpr ⟨tw_788, List.forall_mem_cons.mpr ⟨tw_789, List.forall_mem_cons.mpr ⟨tw_73, fun _ h => absurd h List.not_mem_nil⟩⟩⟩⟩
theorem it_b87 : ∀ w ∈ bkV RX7 323 RX7 yX7_rowsThere, w ∈ lw_tbl := List.forall_mem_cons.mpr ⟨tw_818, List.forall_mem_cons.mpr ⟨tw_820, List.forall_mem_cons.mpr ⟨tw_26, List.forall_mem_cons.mpr ⟨tw_67, fun _ h => absurd h List.not_mem_nil⟩⟩⟩⟩
theorem it_b88 : ∀ w ∈ bkV RX7 330 RX4 yX4_tookInAll, w ∈ lw_tbl := List.forall_mem_cons.mpr ⟨tw_822, List.forall_mem_cons.mpr ⟨tw_823, List.forall_mem_cons.mpr ⟨tw_824, List.forall_mem_cons.mpr ⟨tw_70, fun _ h => absurd h List.not_mem_nil⟩⟩⟩⟩
theorem it_b89 : ∀ w ∈ bkV RX7 337 RX2 yX2_hourIn, w ∈ lw_tbl := List.forall_mem_cons.mpr ⟨tw_688, List.forall_mem_cons.mpr ⟨tw_689, List.forall_mem_cons.mpr ⟨tw_690, List.forall_mem_cons.mpr ⟨tw_69, fun _ h => absurd h List.not_mem_nil⟩⟩⟩⟩
theorem it_b90 : ∀ w ∈ bkV RX7 346 RX2 yX2_secretBy, w ∈ lw_tbl := List.forall_mem_cons.mpr ⟨tw_720, List.forall_mem_cons.mpr ⟨tw_489, List.forall_mem_cons.mpr ⟨tw_490, List.forall_mem_cons.mpr ⟨tw_69, fun _ h => absurd h List.not_mem_nil⟩⟩⟩⟩
theorem it_b91 : ∀ w ∈ bkV RX7 350 RX7 yX7_fitsTold, w ∈ lw_tbl := List.forall_mem_cons.mpr ⟨tw_729, List.forall_mem_cons.mpr ⟨tw_731, List.forall_mem_cons.mpr ⟨tw_21, List.forall_mem_cons.mpr ⟨tw_67, fun _ h => absurd h List.not_mem_nil⟩⟩⟩⟩
theorem it_b92 : ∀ w ∈ bkV RX7 354 RX2 yX2_wouldTake, w ∈ lw_tbl := List.forall_mem_cons.mpr ⟨tw_733, List.forall_mem_cons.mpr ⟨tw_526, List.forall_mem_cons.mpr ⟨tw_527, List.forall_mem_cons.mpr ⟨tw_69, fun _ h => absurd h List.not_mem_nil⟩⟩⟩⟩
theorem it_b93 : ∀ w ∈ bkS RX8 56 yX8_in, w ∈ lw_tbl := List.forall_mem_cons.mpr ⟨tw_915, List.forall_mem_cons.mpr ⟨tw_916, List.forall_mem_cons.mpr ⟨tw_75, fun _ h => absurd h List.not_mem_nil⟩⟩⟩
theorem it_b94 : ∀ w ∈ bkS RX8 60 yX8_isRow, w ∈ lw_tbl := List.forall_mem_cons.mpr ⟨tw_912, List.forall_mem_cons.mpr ⟨tw_913, List.forall_mem_cons.mpr ⟨tw_75, fun _ h => absurd h List.not_mem_nil⟩⟩⟩
theorem it_b95 : ∀ w ∈ bkV RX8 65 RX8 yX8_found, w ∈ lw_tbl := List.forall_mem_cons.mpr ⟨tw_919, List.forall_mem_cons.mpr ⟨tw_921, List.forall_mem_cons.mpr ⟨tw_27, List.forall_mem_cons.mpr ⟨tw_75, fun _ h => absurd h List.not_mem_nil⟩⟩⟩⟩
theorem it_b96 : ∀ w ∈ bkV RX8 69 RX8 yX8_well, w ∈ lw_tbl := List.forall_mem_cons.mpr ⟨tw_924, List.forall_mem_cons.mpr ⟨tw_926, List.forall_mem_cons.mpr ⟨tw_28, List.forall_mem_cons.mpr ⟨tw_75, fun _ h => absurd h List.not_mem_nil⟩⟩⟩⟩
theorem it_b97 : ∀ w ∈ bkV RX8 72 RX8 yX8_isMissing, w ∈ lw_tbl := List.forall_mem_cons.mpr ⟨tw_932, List.forall_mem_cons.mpr ⟨tw_934, List.forall_mem_cons.mpr ⟨tw_29, List.forall_mem_cons.mpr ⟨tw_75, fun _ h => absurd h List.not_mem_nil⟩⟩⟩⟩
theorem it_b98 : ∀ w ∈ bkS RX8 75 yX8_cut, w ∈ lw_tbl := List.forall_mem_cons.mpr ⟨tw_936, List.forall_mem_cons.mpr ⟨tw_937, List.forall_mem_cons.mpr ⟨tw_75, fun _ h => absurd h List.not_mem_nil⟩⟩⟩
theorem it_b99 : ∀ w ∈ bkV RX8 79 RX8 yX8_isPart, w ∈ lw_tbl := List.forall_mem_cons.mpr ⟨tw_943, List.forall_mem_cons.mpr ⟨tw_945, List.forall_mem_cons.mpr ⟨tw_30, List.forall_mem_cons.mpr ⟨tw_75, fun _ h => absurd h List.not_mem_nil⟩⟩⟩⟩
theorem it_b100 : ∀ w ∈ bkV RX8 92 RX8 yX8_byteAt, w ∈ lw_tbl := List.forall_mem_cons.mpr ⟨tw_964, List.forall_mem_cons.mpr ⟨tw_966, List.forall_mem_cons.mpr ⟨tw_32, List.forall_mem_cons.mpr ⟨tw_75, fun _ h => absurd h List.not_mem_nil⟩⟩⟩⟩
theorem it_b101 : ∀ w ∈ bkV RX8 104 RX8 yX8_isWell, w ∈ lw_tbl := List.forall_mem_cons.mpr ⟨tw_972, List.forall_mem_cons.mpr ⟨tw_974, List.forall_mem_cons.mpr ⟨tw_34, List.forall_mem_cons.mpr ⟨tw_75, fun _ h => absurd h List.not_mem_nil⟩⟩⟩⟩
theorem it_b102 : ∀ w ∈ bkV RX8 111 RX8 yX8_advances, w ∈ lw_tbl := List.forall_mem_cons.mpr ⟨tw_960, List.forall_mem_cons.mpr ⟨tw_962, List.forall_mem_cons.mpr ⟨tw_31, List.forall_mem_cons.mpr ⟨tw_75, fun _ h => absurd h List.not_mem_nil⟩⟩⟩⟩
theorem it_b103 : ∀ w ∈ bkV RX8 114 RX8 yX8_takes, w ∈ lw_tbl := List.forall_mem_cons.mpr ⟨tw_968, List.forall_mem_cons.mpr ⟨tw_970, List.forall_mem_cons.mpr ⟨tw_33, List.forall_mem_cons.mpr ⟨tw_75, fun _ h => absurd h List.not_mem_nil⟩⟩⟩⟩
theorem it_b104 : ∀ w ∈ bkV RX8 118 RX8 yX8_figure, w ∈ lw_tbl := List.forall_mem_cons.mpr ⟨tw_976, List.forall_mem_cons.mpr ⟨tw_978, List.forall_mem_cons.mpr ⟨tw_35, List.forall_mem_cons.mpr ⟨tw_75, fun _ h => absurd h List.not_mem_nil⟩⟩⟩⟩
theorem it_b105 : ∀ w ∈ bkV RX8 121 RX8 yX8_letterOf, w ∈ lw_tbl := List.forall_mem_cons.mpr ⟨tw_992, List.forall_mem_cons.mpr ⟨tw_994, List.forall_mem_cons.mpr ⟨tw_39, List.forall_mem_cons.mpr ⟨tw_75, fun _ h => absurd h List.not_mem_nil⟩⟩⟩⟩
theorem it_b106 : ∀ w ∈ bkV RX8 125 RX8 yX8_isTold, w ∈ lw_tbl := List.forall_mem_cons.mpr ⟨tw_996, List.forall_mem_cons.mpr ⟨tw_998, List.forall_mem_cons.mpr ⟨tw_40, List.forall_mem_cons.mpr ⟨tw_75, fun _ h => absurd h List.not_mem_nil⟩⟩⟩⟩
theorem it_b107 : ∀ w ∈ bkS RX8 128 yX8_kindOf, w ∈ lw_tbl := List.forall_mem_cons.mpr ⟨tw_1000, List.forall_mem_cons.mpr ⟨tw_1001, List.forall_mem_cons.mpr ⟨tw_75, fun _ h => absurd h List.not_mem_nil⟩⟩⟩
theorem it_b108 : ∀ w ∈ bkV RX8 131 RX8 yX8_follows, w ∈ lw_tbl := List.forall_mem_cons.mpr ⟨tw_980, List.forall_mem_cons.mpr ⟨tw_982, List.forall_mem_cons.mpr ⟨tw_36, List.forall_mem_cons.mpr ⟨tw_75, fun _ h => absurd h List.not_mem_nil⟩⟩⟩⟩
theorem it_b109 : ∀ w ∈ bkV RX8 134 RX8 yX8_must, w ∈ lw_tbl := List.forall_mem_cons.mpr ⟨tw_984, List.forall_mem_cons.mpr ⟨tw_986, List.forall_mem_cons.mpr ⟨tw_37, List.forall_mem_cons.mpr ⟨tw_75, fun _ h => absurd h List.not_mem_nil⟩⟩⟩⟩
theorem it_b110 : ∀ w ∈ bkV RX8 138 RX8 yX8_readsWord, w ∈ lw_tbl := List.forall_mem_cons.mpr ⟨tw_988, List.forall_mem_cons.mpr ⟨tw_990, List.forall_mem_cons.mpr ⟨tw_38, List.forall_mem_cons.mpr ⟨tw_75, fun _ h => absurd h List.not_mem_nil⟩⟩⟩⟩
theorem it_b111 : ∀ w ∈ bkV RX8 141 RX8 yX8_readsGuard, w ∈ lw_tbl := List.forall_mem_cons.mpr ⟨tw_1003, List.forall_mem_cons.mpr ⟨tw_1005, List.forall_mem_cons.mpr ⟨tw_41, List.forall_mem_cons.mpr ⟨tw_75, fun _ h => absurd h List.not_mem_nil⟩⟩⟩⟩
theorem it_b112 : ∀ w ∈ bkS RX8 145 yX8_copies, w ∈ lw_tbl := List.forall_mem_cons.mpr ⟨tw_1008, List.forall_mem_cons.mpr ⟨tw_1009, List.forall_mem_cons.mpr ⟨tw_75, fun _ h => absurd h List.not_mem_nil⟩⟩⟩
theorem it_b113 : ∀ w ∈ bkV RX8 152 RX8 yX8_distance, w ∈ lw_tbl := List.forall_mem_cons.mpr ⟨tw_1069, List.forall_mem_cons.mpr ⟨tw_1071, List.forall_mem_cons.mpr ⟨tw_51, List.forall_mem_cons.mpr ⟨tw_75, fun _ h => absurd h List.not_mem_nil⟩⟩⟩⟩
theorem it_b114 : ∀ w ∈ bkV RX8 155 RX8 yX8_lips, w ∈ lw_tbl := List.forall_mem_cons.mpr ⟨tw_1073, List.forall_mem_cons.mpr ⟨tw_1075, List.forall_mem_cons.mpr ⟨tw_52, List.forall_mem_cons.mpr ⟨tw_75, fun _ h => absurd h List.not_mem_nil⟩⟩⟩⟩
theorem it_b115 : ∀ w ∈ bkV RX8 158 RX8 yX8_guardOn, w ∈ lw_tbl := List.forall_mem_cons.mpr ⟨tw_1046, List.forall_mem_cons.mpr ⟨tw_1048, List.forall_mem_cons.mpr ⟨tw_46, List.forall_mem_cons.mpr ⟨tw_75, fun _ h => absurd h List.not_mem_nil⟩⟩⟩⟩
theorem it_b116 : ∀ w ∈ bkS RX8 161 yX8_has, w ∈ lw_tbl := List.forall_mem_cons.mpr ⟨tw_1058, List.forall_mem_cons.mpr ⟨tw_1059, List.forall_mem_cons.mpr ⟨tw_75, fun _ h => absurd h List.not_mem_nil⟩⟩⟩
theorem it_b117 : ∀ w ∈ bkV RX8 165 RX8 yX8_kindIn, w ∈ lw_tbl := List.forall_mem_cons.mpr ⟨tw_1061, List.forall_mem_cons.mpr ⟨tw_1063, List.forall_mem_cons.mpr ⟨tw_49, List.forall_mem_cons.mpr ⟨tw_75, fun _ h => absurd h List.not_mem_nil⟩⟩⟩⟩
theorem it_b118 : ∀ w ∈ bkV RX8 168 RX8 yX8_takesBy, w ∈ lw_tbl := List.forall_mem_cons.mpr ⟨tw_1065, List.forall_mem_cons.mpr ⟨tw_1067, List.forall_mem_cons.mpr ⟨tw_50, List.forall_mem_cons.mpr ⟨tw_75, fun _ h => absurd h List.not_mem_nil⟩⟩⟩⟩
theorem it_b119 : ∀ w ∈ bkS RX8 172 yX8_secretOf, w ∈ lw_tbl := List.forall_mem_cons.mpr ⟨tw_1032, List.forall_mem_cons.mpr ⟨tw_1033, List.forall_mem_cons.mpr ⟨tw_75, fun _ h => absurd h List.not_mem_nil⟩⟩⟩
theorem it_b120 : ∀ w ∈ bkV RX8 176 RX8 yX8_isTaken, w ∈ lw_tbl := List.forall_mem_cons.mpr ⟨tw_1054, List.forall_mem_cons.mpr ⟨tw_1056, List.forall_mem_cons.mpr ⟨tw_48, List.forall_mem_cons.mpr ⟨tw_75, fun _ h => absurd h List.not_mem_nil⟩⟩⟩⟩
theorem it_b121 : ∀ w ∈ bkV RX8 180 RX8 yX8_isGate, w ∈ lw_tbl := List.forall_mem_cons.mpr ⟨tw_1019, List.forall_mem_cons.mpr ⟨tw_1021, List.forall_mem_cons.mpr ⟨tw_42, List.forall_mem_cons.mpr ⟨tw_75, fun _ h => absurd h List.not_mem_nil⟩⟩⟩⟩
theorem it_b122 : ∀ w ∈ bkV RX8 184 RX8 yX8_notes, w ∈ lw_tbl := List.forall_mem_cons.mpr ⟨tw_1024, List.forall_mem_cons.mpr ⟨tw_1026, List.forall_mem_cons.mpr ⟨tw_43, List.forall_mem_cons.mpr ⟨tw_75, fun _ h => absurd h List.not_mem_nil⟩⟩⟩⟩
theorem it_b123 : ∀ w ∈ bkV RX8 187 RX8 yX8_forgets, w ∈ lw_tbl := List.forall_mem_cons.mpr ⟨tw_1028, List.forall_mem_cons.mpr ⟨tw_1030, List.forall_mem_cons.mpr ⟨tw_44, List.forall_mem_cons.mpr ⟨tw_75, fun _ h => absurd h List.not_mem_nil⟩⟩⟩⟩
theorem it_b124 : ∀ w ∈ bkV RX8 190 RX8 yX8_isWord, w ∈ lw_tbl := List.forall_mem_cons.mpr ⟨tw_1039, List.forall_mem_cons.mpr ⟨tw_1041, List.forall_mem_cons.mpr ⟨tw_45, List.forall_mem_cons.mpr ⟨tw_75, fun _ h => absurd h List.not_mem_nil⟩⟩⟩⟩
theorem it_b125 : ∀ w ∈ bkS RX8 193 yX8_isHour, w ∈ lw_tbl := List.forall_mem_cons.mpr ⟨tw_1043, List.forall_mem_cons.mpr ⟨tw_1044, List.forall_mem_cons.mpr ⟨tw_75, fun _ h => absurd h List.not_mem_nil⟩⟩⟩
theorem it_b126 : ∀ w ∈ bkV RX8 196 RX8 yX8_isTakenNow, w ∈ lw_tbl := List.forall_mem_cons.mpr ⟨tw_1050, List.forall_mem_cons.mpr ⟨tw_1052, List.forall_mem_cons.mpr ⟨tw_47, List.forall_mem_cons.mpr ⟨tw_75, fun _ h => absurd h List.not_mem_nil⟩⟩⟩⟩
theorem it_b127 : ∀ w ∈ bkV RX8 199 RX8 yX8_isGuard, w ∈ lw_tbl := List.forall_mem_cons.mpr ⟨tw_1085, List.forall_mem_cons.mpr ⟨tw_1087, List.forall_mem_cons.mpr ⟨tw_53, List.forall_mem_cons.mpr ⟨tw_75, fun _ h => absurd h List.not_mem_nil⟩⟩⟩⟩
theorem it_b128 : ∀ w ∈ bkV RX8 202 RX8 yX8_hoursOf, w ∈ lw_tbl := List.forall_mem_cons.mpr ⟨tw_1105, List.forall_mem_cons.mpr ⟨tw_1107, List.forall_mem_cons.mpr ⟨tw_54, List.forall_mem_cons.mpr ⟨tw_75, fun _ h => absurd h List.not_mem_nil⟩⟩⟩⟩
theorem it_b129 : ∀ w ∈ bkS RX8 205 yX8_isFar, w ∈ lw_tbl := List.forall_mem_cons.mpr ⟨tw_1117, List.forall_mem_cons.mpr ⟨tw_1118, List.forall_mem_cons.mpr ⟨tw_75, fun _ h => absurd h List.not_mem_nil⟩⟩⟩
theorem it_b130 : ∀ w ∈ bkV RX8 208 RX8 yX8_areWords, w ∈ lw_tbl := List.forall_mem_cons.mpr ⟨tw_1132, List.forall_mem_cons.mpr ⟨tw_1134, List.forall_mem_cons.mpr ⟨tw_55, List.forall_mem_cons.mpr ⟨tw_75, fun _ h => absurd h List.not_mem_nil⟩⟩⟩⟩
theorem it_b131 : ∀ w ∈ bkV RX8 211 RX8 yX8_areIn, w ∈ lw_tbl := List.forall_mem_cons.mpr ⟨tw_1136, List.forall_mem_cons.mpr ⟨tw_1138, List.forall_mem_cons.mpr ⟨tw_56, List.forall_mem_cons.mpr ⟨tw_75, fun _ h => absurd h List.not_mem_nil⟩⟩⟩⟩
theorem it_b132 : ∀ w ∈ bkV RX8 214 RX8 yX8_agreeing, w ∈ lw_tbl := List.forall_mem_cons.mpr ⟨tw_1148, List.forall_mem_cons.mpr ⟨tw_1150, List.forall_mem_cons.mpr ⟨tw_57, List.forall_mem_cons.mpr ⟨tw_75, fun _ h => absurd h List.not_mem_nil⟩⟩⟩⟩
theorem it_b133 : ∀ w ∈ bkS RX8 217 yX8_ones, w ∈ lw_tbl := List.forall_mem_cons.mpr ⟨tw_1156, List.forall_mem_cons.mpr ⟨tw_1157, List.forall_mem_cons.mpr ⟨tw_75, fun _ h => absurd h List.not_mem_nil⟩⟩⟩
theorem it_b134 : ∀ w ∈ bkV RX8 220 RX8 yX8_takenOf, w ∈ lw_tbl := List.forall_mem_cons.mpr ⟨tw_1159, List.forall_mem_cons.mpr ⟨tw_1161, List.forall_mem_cons.mpr ⟨tw_58, List.forall_mem_cons.mpr ⟨tw_75, fun _ h => absurd h List.not_mem_nil⟩⟩⟩⟩
theorem it_b135 : ∀ w ∈ bkV RX8 224 RX8 yX8_menFor, w ∈ lw_tbl := List.forall_mem_cons.mpr ⟨tw_1167, List.forall_mem_cons.mpr ⟨tw_1169, List.forall_mem_cons.mpr ⟨tw_59, List.forall_mem_cons.mpr ⟨tw_75, fun _ h => absurd h List.not_mem_nil⟩⟩⟩⟩
theorem it_b136 : ∀ w ∈ bkV RX8 227 RX8 yX8_takesSo, w ∈ lw_tbl := List.forall_mem_cons.mpr ⟨tw_1191, List.forall_mem_cons.mpr ⟨tw_1193, List.forall_mem_cons.mpr ⟨tw_60, List.forall_mem_cons.mpr ⟨tw_75, fun _ h => absurd h List.not_mem_nil⟩⟩⟩⟩
theorem it_b137 : ∀ w ∈ bkV RX8 240 RX8 yX8_begins, w ∈ lw_tbl := List.forall_mem_cons.mpr ⟨tw_1231, List.forall_mem_cons.mpr ⟨tw_1233, List.forall_mem_cons.mpr ⟨tw_62, List.forall_mem_cons.mpr ⟨tw_75, fun _ h => absurd h List.not_mem_nil⟩⟩⟩⟩
theorem it_b138 : ∀ w ∈ bkV RX8 244 RX8 yX8_keenMark, w ∈ lw_tbl := List.forall_mem_cons.mpr ⟨tw_1239, List.forall_mem_cons.mpr ⟨tw_1241, List.forall_mem_cons.mpr ⟨tw_64, List.forall_mem_cons.mpr ⟨tw_75, fun _ h => absurd h List.not_mem_nil⟩⟩⟩⟩
theorem it_b139 : ∀ w ∈ bkV RX8 247 RX8 yX8_deafSize, w ∈ lw_tbl := List.forall_mem_cons.mpr ⟨tw_1227, List.forall_mem_cons.mpr ⟨tw_1229, List.forall_mem_cons.mpr ⟨tw_61, List.forall_mem_cons.mpr ⟨tw_75, fun _ h => absurd h List.not_mem_nil⟩⟩⟩⟩
theorem it_b140 : ∀ w ∈ bkV RX8 250 RX8 yX8_keenSize, w ∈ lw_tbl := List.forall_mem_cons.mpr ⟨tw_1235, List.forall_mem_cons.mpr ⟨tw_1237, List.forall_mem_cons.mpr ⟨tw_63, List.forall_mem_cons.mpr ⟨tw_75, fun _ h => absurd h List.not_mem_nil⟩⟩⟩⟩
theorem it_b141 : ∀ w ∈ bkV RX8 253 RX8 yX8_deafMark, w ∈ lw_tbl := List.forall_mem_cons.mpr ⟨tw_1243, List.forall_mem_cons.mpr ⟨tw_1245, List.forall_mem_cons.mpr ⟨tw_65, List.forall_mem_cons.mpr ⟨tw_75, fun _ h => absurd h List.not_mem_nil⟩⟩⟩⟩
theorem it_b142 : ∀ w ∈ bkV RL 13 RX7 yX7_row, w ∈ lw_tbl := List.forall_mem_cons.mpr ⟨tw_330, List.forall_mem_cons.mpr ⟨tw_331, List.forall_mem_cons.mpr ⟨tw_332, List.forall_mem_cons.mpr ⟨tw_67, fun _ h => absurd h List.not_mem_nil⟩⟩⟩⟩
theorem it_b143 : ∀ w ∈ bkV RL 17 RX8 yX8_row, w ∈ lw_tbl := List.forall_mem_cons.mpr ⟨tw_908, List.forall_mem_cons.mpr ⟨tw_909, List.forall_mem_cons.mpr ⟨tw_910, List.forall_mem_cons.mpr ⟨tw_75, fun _ h => absurd h List.not_mem_nil⟩⟩⟩⟩
theorem it_b144 : ∀ w ∈ bkV RL 18 RX7 yX7_set, w ∈ lw_tbl := List.forall_mem_cons.mpr ⟨tw_352, List.forall_mem_cons.mpr ⟨tw_353, List.forall_mem_cons.mpr ⟨tw_354, List.forall_mem_cons.mpr ⟨tw_67, fun _ h => absurd h List.not_mem_nil⟩⟩⟩⟩
theorem it_b145 : ∀ w ∈ bkV RL 21 RX8 yX8_set, w ∈ lw_tbl := List.forall_mem_cons.mpr ⟨tw_928, List.forall_mem_cons.mpr ⟨tw_929, List.forall_mem_cons.mpr ⟨tw_930, List.forall_mem_cons.mpr ⟨tw_75, fun _ h => absurd h List.not_mem_nil⟩⟩⟩⟩
theorem it_b146 : ∀ w ∈ bkV RL 22 RX7 yX7_copy, w ∈ lw_tbl := List.forall_mem_cons.mpr ⟨tw_368, List.forall_mem_cons.mpr ⟨tw_369, List.forall_mem_cons.mpr ⟨tw_370, List.forall_mem_cons.mpr ⟨tw_67, fun _ h => absurd h List.not_mem_nil⟩⟩⟩⟩
theorem it_b147 : ∀ w ∈ bkV RL 26 RX8 yX8_copy, w ∈ lw_tbl := List.forall_mem_cons.mpr ⟨tw_939, List.forall_mem_cons.mpr ⟨tw_940, List.forall_mem_cons.mpr ⟨tw_941, List.forall_mem_cons.mpr ⟨tw_75, fun _ h => absurd h List.not_mem_nil⟩⟩⟩⟩
theorem it_b148 : ∀ w ∈ bkV RL 27 RX7 yX7_drop, w ∈ lw_tbl := List.forall_mem_cons.mpr ⟨tw_376, List.forall_mem_cons.mpr ⟨tw_377, List.forall_mem_cons.mpr ⟨tw_378, List.forall_mem_cons.mpr ⟨tw_67, fun _ h => absurd h List.not_mem_nil⟩⟩⟩⟩
theorem it_b149 : ∀ w ∈ bkV RL 31 RX8 yX8_drop, w ∈ lw_tbl := List.forall_mem_cons.mpr ⟨tw_947, List.forall_mem_cons.mpr ⟨tw_948, List.forall_mem_cons.mpr ⟨tw_949, List.forall_mem_cons.mpr ⟨tw_75, fun _ h => absurd h List.not_mem_nil⟩⟩⟩⟩
theorem it_b150 : ∀ w ∈ bkV RL 32 RX7 yX7_feed, w ∈ lw_tbl := List.forall_mem_cons.mpr ⟨tw_380, List.forall_mem_cons.mpr ⟨tw_381, List.forall_mem_cons.mpr ⟨tw_382, List.forall_mem_cons.mpr ⟨tw_67, fun _ h => absurd h List.not_mem_nil⟩⟩⟩⟩
theorem it_b151 : ∀ w ∈ bkV RL 35 RX8 yX8_feed, w ∈ lw_tbl := List.forall_mem_cons.mpr ⟨tw_951, List.forall_mem_cons.mpr ⟨tw_952, List.forall_mem_cons.mpr ⟨tw_953, List.forall_mem_cons.mpr ⟨tw_75, fun _ h => absurd h List.not_mem_nil⟩⟩⟩⟩
theorem it_b152 : ∀ w ∈ bkV RL 36 RX7 yX7_gate, w ∈ lw_tbl := List.forall_mem_cons.mpr ⟨tw_389, List.forall_mem_cons.mpr ⟨tw_390, List.forall_mem_cons.mpr ⟨tw_391, List.forall_mem_cons.mpr ⟨tw_67, fun _ h => absurd h List.not_mem_nil⟩⟩⟩⟩
theorem it_b153 : ∀ w ∈ bkV RL 40 RX8 yX8_gate, w ∈ lw_tbl := List.forall_mem_cons.mpr ⟨tw_956, List.forall_mem_cons.mpr ⟨tw_957, List.forall_mem_cons.mpr ⟨tw_958, List.forall_mem_cons.mpr ⟨tw_75, fun _ h => absurd h List.not_mem_nil⟩⟩⟩⟩
theorem it_b154 : ∀ w ∈ bkV RL 41 RX7 yX7_fault, w ∈ lw_tbl := List.forall_mem_cons.mpr ⟨tw_459, List.forall_mem_cons.mpr ⟨tw_460, List.forall_mem_cons.mpr ⟨tw_461, List.forall_mem_cons.mpr ⟨tw_67, fun _ h => absurd h List.not_mem_nil⟩⟩⟩⟩
theorem it_b155 : ∀ w ∈ bkV RL 44 RX8 yX8_fault, w ∈ lw_tbl := List.forall_mem_cons.mpr ⟨tw_1011, List.forall_mem_cons.mpr ⟨tw_1012, List.forall_mem_cons.mpr ⟨tw_1013, List.forall_mem_cons.mpr ⟨tw_75, fun _ h => absurd h List.not_mem_nil⟩⟩⟩⟩
theorem it_b156 : ∀ w ∈ bkV RL 45 RX7 yX7_nights, w ∈ lw_tbl := List.forall_mem_cons.mpr ⟨tw_463, List.forall_mem_cons.mpr ⟨tw_464, List.forall_mem_cons.mpr ⟨tw_465, List.forall_mem_cons.mpr ⟨tw_67, fun _ h => absurd h List.not_mem_nil⟩⟩⟩⟩
theorem it_b157 : ∀ w ∈ bkV RL 48 RX8 yX8_nights, w ∈ lw_tbl := List.forall_mem_cons.mpr ⟨tw_1015, List.forall_mem_cons.mpr ⟨tw_1016, List.forall_mem_cons.mpr ⟨tw_1017, List.forall_mem_cons.mpr ⟨tw_75, fun _ h => absurd h List.not_mem_nil⟩⟩⟩⟩
theorem it_b158 : ∀ w ∈ bkV RL 49 RX7 yX7_say, w ∈ lw_tbl := List.forall_mem_cons.mpr ⟨tw_495, List.forall_mem_cons.mpr ⟨tw_496, List.forall_mem_cons.mpr ⟨tw_497, List.forall_mem_cons.mpr ⟨tw_67, fun _ h => absurd h List.not_mem_nil⟩⟩⟩⟩
theorem it_b159 : ∀ w ∈ bkV RL 53 RX8 yX8_say, w ∈ lw_tbl := List.forall_mem_cons.mpr ⟨tw_1035, List.forall_mem_cons.mpr ⟨tw_1036, List.forall_mem_cons.mpr ⟨tw_1037, List.forall_mem_cons.mpr ⟨tw_75, fun _ h => absurd h List.not_mem_nil⟩⟩⟩⟩
theorem it_b160 : ∀ w ∈ bkV RL 54 RX7 yX7_start, w ∈ lw_tbl := List.forall_mem_cons.mpr ⟨tw_544, List.forall_mem_cons.mpr ⟨tw_545, List.forall_mem_cons.mpr ⟨tw_546, List.forall_mem_cons.mpr ⟨tw_67, fun _ h => absurd h List.not_mem_nil⟩⟩⟩⟩
theorem it_b161 : ∀ w ∈ bkV RL 57 RX8 yX8_start, w ∈ lw_tbl := List.forall_mem_cons.mpr ⟨tw_1077, List.forall_mem_cons.mpr ⟨tw_1078, List.forall_mem_cons.mpr ⟨tw_1079, List.forall_mem_cons.mpr ⟨tw_75, fun _ h => absurd h List.not_mem_nil⟩⟩⟩⟩
theorem it_b162 : ∀ w ∈ bkV RL 58 RX7 yX7_dismiss, w ∈ lw_tbl := List.forall_mem_cons.mpr ⟨tw_548, List.forall_mem_cons.mpr ⟨tw_549, List.forall_mem_cons.mpr ⟨tw_550, List.forall_mem_cons.mpr ⟨tw_67, fun _ h => absurd h List.not_mem_nil⟩⟩⟩⟩
theorem it_b163 : ∀ w ∈ bkV RL 61 RX8 yX8_dismiss, w ∈ lw_tbl := List.forall_mem_cons.mpr ⟨tw_1081, List.forall_mem_cons.mpr ⟨tw_1082, List.forall_mem_cons.mpr ⟨tw_1083, List.forall_mem_cons.mpr ⟨tw_75, fun _ h => absurd h List.not_mem_nil⟩⟩⟩⟩
theorem it_b164 : ∀ w ∈ bkV RL 62 RX7 yX7_undo, w ∈ lw_tbl := List.forall_mem_cons.mpr ⟨tw_556, List.forall_mem_cons.mpr ⟨tw_557, List.forall_mem_cons.mpr ⟨tw_558, List.forall_mem_cons.mpr ⟨tw_67, fun _ h => absurd h List.not_mem_nil⟩⟩⟩⟩
theorem it_b165 : ∀ w ∈ bkV RL 65 RX8 yX8_undo, w ∈ lw_tbl := List.forall_mem_cons.mpr ⟨tw_1089, List.forall_mem_cons.mpr ⟨tw_1090, List.forall_mem_cons.mpr ⟨tw_1091, List.forall_mem_cons.mpr ⟨tw_75, fun _ h => absurd h List.not_mem_nil⟩⟩⟩⟩
theorem it_b166 : ∀ w ∈ bkV RL 66 RX7 yX7_letter, w ∈ lw_tbl := List.forall_mem_cons.mpr ⟨tw_564, List.forall_mem_cons.mpr ⟨tw_565, List.forall_mem_cons.mpr ⟨tw_566, List.forall_mem_cons.mpr ⟨tw_67, fun _ h => absurd h List.not_mem_nil⟩⟩⟩⟩
theorem it_b167 : ∀ w ∈ bkV RL 69 RX8 yX8_letter, w ∈ lw_tbl := List.forall_mem_cons.mpr ⟨tw_1093, List.forall_mem_cons.mpr ⟨tw_1094, List.forall_mem_cons.mpr ⟨tw_1095, List.forall_mem_cons.mpr ⟨tw_75, fun _ h => absurd h List.not_mem_nil⟩⟩⟩⟩
theorem it_b168 : ∀ w ∈ bkV RL 70 RX7 yX7_like, w ∈ lw_tbl := List.forall_mem_cons.mpr ⟨tw_568, List.forall_mem_cons.mpr ⟨tw_569, List.forall_mem_cons.mpr ⟨tw_570, List.forall_mem_cons.mpr ⟨tw_67, fun _ h => absurd h List.not_mem_nil⟩⟩⟩⟩
theorem it_b169 : ∀ w ∈ bkV RL 73 RX8 yX8_like, w ∈ lw_tbl := List.forall_mem_cons.mpr ⟨tw_1097, List.forall_mem_cons.mpr ⟨tw_1098, List.forall_mem_cons.mpr ⟨tw_1099, List.forall_mem_cons.mpr ⟨tw_75, fun _ h => absurd h List.not_mem_nil⟩⟩⟩⟩
theorem it_b170 : ∀ w ∈ bkV RL 74 RX7 yX7_guard, w ∈ lw_tbl := List.forall_mem_cons.mpr ⟨tw_574, List.forall_mem_cons.mpr ⟨tw_575, List.forall_mem_cons.mpr ⟨tw_576, List.forall_mem_cons.mpr ⟨tw_67, fun _ h => absurd h List.not_mem_nil⟩⟩⟩⟩
theorem it_b171 : ∀ w ∈ bkV RL 77 RX8 yX8_guard, w ∈ lw_tbl := List.forall_mem_cons.mpr ⟨tw_1101, List.forall_mem_cons.mpr ⟨tw_1102, List.forall_mem_cons.mpr ⟨tw_1103, List.forall_mem_cons.mpr ⟨tw_75, fun _ h => absurd h List.not_mem_nil⟩⟩⟩⟩
theorem it_b172 : ∀ w ∈ bkV RL 78 RX7 yX7_tried, w ∈ lw_tbl := List.forall_mem_cons.mpr ⟨tw_583, List.forall_mem_cons.mpr ⟨tw_584, List.forall_mem_cons.mpr ⟨tw_585, List.forall_mem_cons.mpr ⟨tw_67, fun _ h => absurd h List.not_mem_nil⟩⟩⟩⟩
theorem it_b173 : ∀ w ∈ bkV RL 81 RX8 yX8_tried, w ∈ lw_tbl := List.forall_mem_cons.mpr ⟨tw_1109, List.forall_mem_cons.mpr ⟨tw_1110, List.forall_mem_cons.mpr ⟨tw_1111, List.forall_mem_cons.mpr ⟨tw_75, fun _ h => absurd h List.not_mem_nil⟩⟩⟩⟩
theorem it_b174 : ∀ w ∈ bkV RL 82 RX7 yX7_secret, w ∈ lw_tbl := List.forall_mem_cons.mpr ⟨tw_587, List.forall_mem_cons.mpr ⟨tw_588, List.forall_mem_cons.mpr ⟨tw_589, List.forall_mem_cons.mpr ⟨tw_67, fun _ h => absurd h List.not_mem_nil⟩⟩⟩⟩
theorem it_b175 : ∀ w ∈ bkV RL 85 RX8 yX8_secret, w ∈ lw_tbl := List.forall_mem_cons.mpr ⟨tw_1113, List.forall_mem_cons.mpr ⟨tw_1114, List.forall_mem_cons.mpr ⟨tw_1115, List.forall_mem_cons.mpr ⟨tw_75, fun _ h => absurd h List.not_mem_nil⟩⟩⟩⟩
theorem it_b176 : ∀ w ∈ bkV RL 86 RX7 yX7_taken, w ∈ lw_tbl := List.forall_mem_cons.mpr ⟨tw_595, List.forall_mem_cons.mpr ⟨tw_596, List.forall_mem_cons.mpr ⟨tw_597, List.forall_mem_cons.mpr ⟨tw_67, fun _ h => absurd h List.not_mem_nil⟩⟩⟩⟩
theorem it_b177 : ∀ w ∈ bkV RL 89 RX8 yX8_taken, w ∈ lw_tbl := List.forall_mem_cons.mpr ⟨tw_1120, List.forall_mem_cons.mpr ⟨tw_1121, List.forall_mem_cons.mpr ⟨tw_1122, List.forall_mem_cons.mpr ⟨tw_75, fun _ h => absurd h List.not_mem_nil⟩⟩⟩⟩
theorem it_b178 : ∀ w ∈ bkV RL 90 RX7 yX7_safe, w ∈ lw_tbl := List.forall_mem_cons.mpr ⟨tw_599, List.forall_mem_cons.mpr ⟨tw_600, List.forall_mem_cons.mpr ⟨tw_601, List.forall_mem_cons.mpr ⟨tw_67, fun _ h => absurd h List.not_mem_nil⟩⟩⟩⟩
theorem it_b179 : ∀ w ∈ bkV RL 93 RX8 yX8_safe, w ∈ lw_tbl := List.forall_mem_cons.mpr ⟨tw_1124, List.forall_mem_cons.mpr ⟨tw_1125, List.forall_mem_cons.mpr ⟨tw_1126, List.forall_mem_cons.mpr ⟨tw_75, fun _ h => absurd h List.not_mem_nil⟩⟩⟩⟩
theorem it_b180 : ∀ w ∈ bkV RL 94 RX7 yX7_open, w ∈ lw_tbl := List.forall_mem_cons.mpr ⟨tw_608, List.forall_mem_cons.mpr ⟨tw_609, List.forall_mem_cons.mpr ⟨tw_610, List.forall_mem_cons.mpr ⟨tw_67, fun _ h => absurd h List.not_mem_nil⟩⟩⟩⟩
theorem it_b181 : ∀ w ∈ bkV RL 97 RX8 yX8_open, w ∈ lw_tbl := List.forall_mem_cons.mpr ⟨tw_1128, List.forall_mem_cons.mpr ⟨tw_1129, List.forall_mem_cons.mpr ⟨tw_1130, List.forall_mem_cons.mpr ⟨tw_75, fun _ h => absurd h List.not_mem_nil⟩⟩⟩⟩
theorem it_b182 : ∀ w ∈ bkV RL 98 RX7 yX7_next, w ∈ lw_tbl := List.forall_mem_cons.mpr ⟨tw_621, List.forall_mem_cons.mpr ⟨tw_622, List.forall_mem_cons.mpr ⟨tw_623, List.forall_mem_cons.mpr ⟨tw_67, fun _ h => absurd h List.not_mem_nil⟩⟩⟩⟩
theorem it_b183 : ∀ w ∈ bkV RL 101 RX8 yX8_next, w ∈ lw_tbl := List.forall_mem_cons.mpr ⟨tw_1140, List.forall_mem_cons.mpr ⟨tw_1141, List.forall_mem_cons.mpr ⟨tw_1142, List.forall_mem_cons.mpr ⟨tw_75, fun _ h => absurd h List.not_mem_nil⟩⟩⟩⟩
theorem it_b184 : ∀ w ∈ bkV RL 102 RX7 yX7_agree, w ∈ lw_tbl := List.forall_mem_cons.mpr ⟨tw_630, List.forall_mem_cons.mpr ⟨tw_631, List.forall_mem_cons.mpr ⟨tw_632, List.forall_mem_cons.mpr ⟨tw_67, fun _ h => absurd h List.not_mem_nil⟩⟩⟩⟩
theorem it_b185 : ∀ w ∈ bkV RL 105 RX8 yX8_agree, w ∈ lw_tbl := List.forall_mem_cons.mpr ⟨tw_1144, List.forall_mem_cons.mpr ⟨tw_1145, List.forall_mem_cons.mpr ⟨tw_1146, List.forall_mem_cons.mpr ⟨tw_75, fun _ h => absurd h List.not_mem_nil⟩⟩⟩⟩
theorem it_b186 : ∀ w ∈ bkV RL 106 RX7 yX7_man, w ∈ lw_tbl := List.forall_mem_cons.mpr ⟨tw_642, List.forall_mem_cons.mpr ⟨tw_643, List.forall_mem_cons.mpr ⟨tw_644, List.forall_mem_cons.mpr ⟨tw_67, fun _ h => absurd h List.not_mem_nil⟩⟩⟩⟩
theorem it_b187 : ∀ w ∈ bkV RL 109 RX8 yX8_man, w ∈ lw_tbl := List.forall_mem_cons.mpr ⟨tw_1152, List.forall_mem_cons.mpr ⟨tw_1153, List.forall_mem_cons.mpr ⟨tw_1154, List.forall_mem_cons.mpr ⟨tw_75, fun _ h => absurd h List.not_mem_nil⟩⟩⟩⟩
theorem it_b188 : ∀ w ∈ bkV RL 110 RX7 yX7_fewest, w ∈ lw_tbl := List.forall_mem_cons.mpr ⟨tw_666, List.forall_mem_cons.mpr ⟨tw_667, List.forall_mem_cons.mpr ⟨tw_668, List.forall_mem_cons.mpr ⟨tw_67, fun _ h => absurd h List.not_mem_nil⟩⟩⟩⟩
theorem it_b189 : ∀ w ∈ bkV RL 113 RX8 yX8_fewest, w ∈ lw_tbl := List.forall_mem_cons.mpr ⟨tw_1163, List.forall_mem_cons.mpr ⟨tw_1164, List.forall_mem_cons.mpr ⟨tw_1165, List.forall_mem_cons.mpr ⟨tw_75, fun _ h => absurd h List.not_mem_nil⟩⟩⟩⟩
theorem it_b190 : ∀ w ∈ bkV RL 114 RX7 yX7_march, w ∈ lw_tbl := List.forall_mem_cons.mpr ⟨tw_680, List.forall_mem_cons.mpr ⟨tw_681, List.forall_mem_cons.mpr ⟨tw_682, List.forall_mem_cons.mpr ⟨tw_67, fun _ h => absurd h List.not_mem_nil⟩⟩⟩⟩
theorem it_b191 : ∀ w ∈ bkV RL 118 RX8 yX8_march, w ∈ lw_tbl := List.forall_mem_cons.mpr ⟨tw_1171, List.forall_mem_cons.mpr ⟨tw_1172, List.forall_mem_cons.mpr ⟨tw_1173, List.forall_mem_cons.mpr ⟨tw_75, fun _ h => absurd h List.not_mem_nil⟩⟩⟩⟩
theorem it_b192 : ∀ w ∈ bkV RL 119 RX7 yX7_cheap, w ∈ lw_tbl := List.forall_mem_cons.mpr ⟨tw_692, List.forall_mem_cons.mpr ⟨tw_693, List.forall_mem_cons.mpr ⟨tw_694, List.forall_mem_cons.mpr ⟨tw_67, fun _ h => absurd h List.not_mem_nil⟩⟩⟩⟩
theorem it_b193 : ∀ w ∈ bkV RL 122 RX8 yX8_cheap, w ∈ lw_tbl := List.forall_mem_cons.mpr ⟨tw_1175, List.forall_mem_cons.mpr ⟨tw_1176, List.forall_mem_cons.mpr ⟨tw_1177, List.forall_mem_cons.mpr ⟨tw_75, fun _ h => absurd h List.not_mem_nil⟩⟩⟩⟩
theorem it_b194 : ∀ w ∈ bkV RL 123 RX7 yX7_near, w ∈ lw_tbl := List.forall_mem_cons.mpr ⟨tw_704, List.forall_mem_cons.mpr ⟨tw_705, List.forall_mem_cons.mpr ⟨tw_706, List.forall_mem_cons.mpr ⟨tw_67, fun _ h => absurd h List.not_mem_nil⟩⟩⟩⟩
theorem it_b195 : ∀ w ∈ bkV RL 126 RX8 yX8_near, w ∈ lw_tbl := List.forall_mem_cons.mpr ⟨tw_1179, List.forall_mem_cons.mpr ⟨tw_1180, List.forall_mem_cons.mpr ⟨tw_1181, List.forall_mem_cons.mpr ⟨tw_75, fun _ h => absurd h List.not_mem_nil⟩⟩⟩⟩
theorem it_b196 : ∀ w ∈ bkV RL 127 RX7 yX7_rules, w ∈ lw_tbl := List.forall_mem_cons.mpr ⟨tw_712, List.forall_mem_cons.mpr ⟨tw_713, List.forall_mem_cons.mpr ⟨tw_714, List.forall_mem_cons.mpr ⟨tw_67, fun _ h => absurd h List.not_mem_nil⟩⟩⟩⟩
theorem it_b197 : ∀ w ∈ bkV RL 130 RX8 yX8_rules, w ∈ lw_tbl := List.forall_mem_cons.mpr ⟨tw_1183, List.forall_mem_cons.mpr ⟨tw_1184, List.forall_mem_cons.mpr ⟨tw_1185, List.forall_mem_cons.mpr ⟨tw_75, fun _ h => absurd h List.not_mem_nil⟩⟩⟩⟩
theorem it_b198 : ∀ w ∈ bkV RL 131 RX7 yX7_fits, w ∈ lw_tbl := List.forall_mem_cons.mpr ⟨tw_721, List.forall_mem_cons.mpr ⟨tw_722, List.forall_mem_cons.mpr ⟨tw_723, List.forall_mem_cons.mpr ⟨tw_67, fun _ h => absurd h List.not_mem_nil⟩⟩⟩⟩
theorem it_b199 : ∀ w ∈ bkV RL 134 RX8 yX8_fits, w ∈ lw_tbl := List.forall_mem_cons.mpr ⟨tw_1187, List.forall_mem_cons.mpr ⟨tw_1188, List.forall_mem_cons.mpr ⟨tw_1189, List.forall_mem_cons.mpr ⟨tw_75, fun _ h => absurd h List.not_mem_nil⟩⟩⟩⟩
theorem it_b200 : ∀ w ∈ bkV RL 135 RX7 yX7_sure, w ∈ lw_tbl := List.forall_mem_cons.mpr ⟨tw_738, List.forall_mem_cons.mpr ⟨tw_739, List.forall_mem_cons.mpr ⟨tw_740, List.forall_mem_cons.mpr ⟨tw_67, fun _ h => absurd h List.not_mem_nil⟩⟩⟩⟩
theorem it_b201 : ∀ w ∈ bkV RL 138 RX8 yX8_sure, w ∈ lw_tbl := List.forall_mem_cons.mpr ⟨tw_1195, List.forall_mem_cons.mpr ⟨tw_1196, List.forall_mem_cons.mpr ⟨tw_1197, List.forall_mem_cons.mpr ⟨tw_75, fun _ h => absurd h List.not_mem_nil⟩⟩⟩⟩
theorem it_b202 : ∀ w ∈ bkV RL 139 RX7 yX7_drawn, w ∈ lw_tbl := List.forall_mem_cons.mpr ⟨tw_750, List.forall_mem_cons.mpr ⟨tw_751, List.forall_mem_cons.mpr ⟨tw_752, List.forall_mem_cons.mpr ⟨tw_67, fun _ h => absurd h List.not_mem_nil⟩⟩⟩⟩
theorem it_b203 : ∀ w ∈ bkV RL 142 RX8 yX8_drawn, w ∈ lw_tbl := List.forall_mem_cons.mpr ⟨tw_1199, List.forall_mem_cons.mpr ⟨tw_1200, List.forall_mem_cons.mpr ⟨tw_1201, List.forall_mem_cons.mpr ⟨tw_75, fun _ h => absurd h List.not_mem_nil⟩⟩⟩⟩
theorem it_b204 : ∀ w ∈ bkV RL 143 RX7 yX7_image, w ∈ lw_tbl := List.forall_mem_cons.mpr ⟨tw_758, List.forall_mem_cons.mpr ⟨tw_759, List.forall_mem_cons.mpr ⟨tw_760, List.forall_mem_cons.mpr ⟨tw_67, fun _ h => absurd h List.not_mem_nil⟩⟩⟩⟩
theorem it_b205 : ∀ w ∈ bkV RL 146 RX8 yX8_image, w ∈ lw_tbl := List.forall_mem_cons.mpr ⟨tw_1207, List.forall_mem_cons.mpr ⟨tw_1208, List.forall_mem_cons.mpr ⟨tw_1209, List.forall_mem_cons.mpr ⟨tw_75, fun _ h => absurd h List.not_mem_nil⟩⟩⟩⟩
theorem it_b206 : ∀ w ∈ bkV RL 147 RX7 yX7_restore, w ∈ lw_tbl := List.forall_mem_cons.mpr ⟨tw_762, List.forall_mem_cons.mpr ⟨tw_763, List.forall_mem_cons.mpr ⟨tw_764, List.forall_mem_cons.mpr ⟨tw_67, fun _ h => absurd h List.not_mem_nil⟩⟩⟩⟩
theorem it_b207 : ∀ w ∈ bkV RL 150 RX8 yX8_restore, w ∈ lw_tbl := List.forall_mem_cons.mpr ⟨tw_1211, List.forall_mem_cons.mpr ⟨tw_1212, List.forall_mem_cons.mpr ⟨tw_1213, List.forall_mem_cons.mpr ⟨tw_75, fun _ h => absurd h List.not_mem_nil⟩⟩⟩⟩
theorem it_b208 : ∀ w ∈ bkV RL 151 RX7 yX7_kind, w ∈ lw_tbl := List.forall_mem_cons.mpr ⟨tw_766, List.forall_mem_cons.mpr ⟨tw_767, List.forall_mem_cons.mpr ⟨tw_768, List.forall_mem_cons.mpr ⟨tw_67, fun _ h => absurd h List.not_mem_nil⟩⟩⟩⟩
theorem it_b209 : ∀ w ∈ bkV RL 154 RX8 yX8_kind, w ∈ lw_tbl := List.forall_mem_cons.mpr ⟨tw_1215, List.forall_mem_cons.mpr ⟨tw_1216, List.forall_mem_cons.mpr ⟨tw_1217, List.forall_mem_cons.mpr ⟨tw_75, fun _ h => absurd h List.not_mem_nil⟩⟩⟩⟩
theorem it_b210 : ∀ w ∈ bkV RL 155 RX7 yX7_as, w ∈ lw_tbl := List.forall_mem_cons.mpr ⟨tw_770, List.forall_mem_cons.mpr ⟨tw_771, List.forall_mem_cons.mpr ⟨tw_772, List.forall_mem_cons.mpr ⟨tw_67, fun _ h => absurd h List.not_mem_nil⟩⟩⟩⟩
theorem it_b211 : ∀ w ∈ bkV RL 158 RX8 yX8_as, w ∈ lw_tbl := List.forall_mem_cons.mpr ⟨tw_1219, List.forall_mem_cons.mpr ⟨tw_1220, List.forall_mem_cons.mpr ⟨tw_1221, List.forall_mem_cons.mpr ⟨tw_75, fun _ h => absurd h List.not_mem_nil⟩⟩⟩⟩
theorem it_b212 : ∀ w ∈ bkV RL 159 RX7 yX7_ask, w ∈ lw_tbl := List.forall_mem_cons.mpr ⟨tw_779, List.forall_mem_cons.mpr ⟨tw_780, List.forall_mem_cons.mpr ⟨tw_781, List.forall_mem_cons.mpr ⟨tw_67, fun _ h => absurd h List.not_mem_nil⟩⟩⟩⟩
theorem it_b213 : ∀ w ∈ bkV RL 162 RX8 yX8_ask, w ∈ lw_tbl := List.forall_mem_cons.mpr ⟨tw_1223, List.forall_mem_cons.mpr ⟨tw_1224, List.forall_mem_cons.mpr ⟨tw_1225, List.forall_mem_cons.mpr ⟨tw_75, fun _ h => absurd h List.not_mem_nil⟩⟩⟩⟩
theorem it_b214 : ∀ w ∈ bkV RL 163 RX7 yX7_trace, w ∈ lw_tbl := List.forall_mem_cons.mpr ⟨tw_810, List.forall_mem_cons.mpr ⟨tw_811, List.forall_mem_cons.mpr ⟨tw_812, List.forall_mem_cons.mpr ⟨tw_67, fun _ h => absurd h List.not_mem_nil⟩⟩⟩⟩
theorem it_b215 : ∀ w ∈ bkV RL 166 RX8 yX8_trace, w ∈ lw_tbl := List.forall_mem_cons.mpr ⟨tw_1247, List.forall_mem_cons.mpr ⟨tw_1248, List.forall_mem_cons.mpr ⟨tw_1249, List.forall_mem_cons.mpr ⟨tw_75, fun _ h => absurd h List.not_mem_nil⟩⟩⟩⟩
theorem it_b216 : ∀ w ∈ bkV RL 167 RX7 yX7_count, w ∈ lw_tbl := List.forall_mem_cons.mpr ⟨tw_814, List.forall_mem_cons.mpr ⟨tw_815, List.forall_mem_cons.mpr ⟨tw_816, List.forall_mem_cons.mpr ⟨tw_67, fun _ h => absurd h List.not_mem_nil⟩⟩⟩⟩
theorem it_b217 : ∀ w ∈ bkV RL 170 RX8 yX8_count, w ∈ lw_tbl := List.forall_mem_cons.mpr ⟨tw_1251, List.forall_mem_cons.mpr ⟨tw_1252, List.forall_mem_cons.mpr ⟨tw_1253, List.forall_mem_cons.mpr ⟨tw_75, fun _ h => absurd h List.not_mem_nil⟩⟩⟩⟩
theorem it_b218 : ∀ w ∈ bkV RL 171 RX7 yX7_status, w ∈ lw_tbl := List.forall_mem_cons.mpr ⟨tw_826, List.forall_mem_cons.mpr ⟨tw_827, List.forall_mem_cons.mpr ⟨tw_828, List.forall_mem_cons.mpr ⟨tw_67, fun _ h => absurd h List.not_mem_nil⟩⟩⟩⟩
theorem it_b219 : ∀ w ∈ bkV RL 174 RX8 yX8_status, w ∈ lw_tbl := List.forall_mem_cons.mpr ⟨tw_1255, List.forall_mem_cons.mpr ⟨tw_1256, List.forall_mem_cons.mpr ⟨tw_1257, List.forall_mem_cons.mpr ⟨tw_75, fun _ h => absurd h List.not_mem_nil⟩⟩⟩⟩
def wsX4_init_o : List Cond := ([Cond.methodLink RX4 3 objectInit, Cond.instanceMethod objectInit, Cond.code objectInit ⟨#[0xb1]⟩ 1 none, Cond.arrayClass .int, Cond.fieldLink RX4 9 "WrongWord$Moment" "took" "[I", Cond.fieldLink RX4 15 "WrongWord$Moment" "triedWord" "[I", Cond.fieldLink RX4 18 "WrongWord$Moment" "triedGuard" "[I", Cond.fieldLink RX4 21 "WrongWord$Moment" "triedTaken" "[I"] : List Cond)
def wsX4_init : List Cond := .code yX4_init cX4_init 1 none :: (wsX4_init_o ++ (wsX40 ++ ([] : List Cond)))
theorem itX4_init_o : ∀ w ∈ wsX4_init_o, w ∈ lw_tbl := List.forall_mem_cons.mpr ⟨tw_106, List.forall_mem_cons.mpr ⟨tw_85, List.forall_mem_cons.mpr ⟨tw_86, List.forall_mem_cons.mpr ⟨tw_149, List.forall_mem_cons.mpr ⟨tw_107, List.forall_mem_cons.mpr ⟨tw_109, List.forall_mem_cons.mpr ⟨tw_112, List.forall_mem_cons.mpr ⟨tw_115, fun _ h => absurd h List.not_mem_nil⟩⟩⟩⟩⟩⟩⟩⟩
theorem itX4_init : ∀ w ∈ wsX4_init, w ∈ lw_tbl := List.forall_mem_cons.mpr ⟨tw_105, List.forall_mem_append.mpr ⟨itX4_init_o, List.forall_mem_append.mpr ⟨itX40, fun _ h => absurd h List.not_mem_nil⟩⟩⟩
set_option maxRecDepth 100000 in
theorem gdX4_init_o : ∀ w ∈ wsX4_init_o, goodWord w = true := gd_o (by decide +kernel)
set_option maxRecDepth 100000 in
theorem gdX4_init : ∀ w ∈ wsX4_init, goodWord w = true := List.forall_mem_cons.mpr ⟨by decide +kernel, List.forall_mem_append.mpr ⟨gdX4_init_o, List.forall_mem_append.mpr ⟨gdX40, fun _ h => absurd h List.not_mem_nil⟩⟩⟩
def wsX0_init_o : List Cond := ([Cond.methodLink RX0 3 objectInit, Cond.classLink RX0 9 RX4, Cond.fieldLink RX0 11 "WrongWord$Acts" "ahead" "[LWrongWord$Moment;", Cond.instantiable RX4 8, Cond.initialized RX4, Cond.instanceMethod yX4_init] : List Cond)
def wsX0_init : List Cond := .code yX0_init cX0_init 2 none :: (wsX0_init_o ++ (wsX00 ++ (wsX40 ++ (wsX4_init ++ ([] : List Cond)))))
theorem itX0_init_o : ∀ w ∈ wsX0_init_o, w ∈ lw_tbl := List.forall_mem_cons.mpr ⟨tw_228, List.forall_mem_cons.mpr ⟨tw_229, List.forall_mem_cons.mpr ⟨tw_232, List.forall_mem_cons.mpr ⟨tw_102, List.forall_mem_cons.mpr ⟨tw_70, List.forall_mem_cons.mpr ⟨tw_104, fun _ h => absurd h List.not_mem_nil⟩⟩⟩⟩⟩⟩
theorem itX0_init : ∀ w ∈ wsX0_init, w ∈ lw_tbl := List.forall_mem_cons.mpr ⟨tw_227, List.forall_mem_append.mpr ⟨itX0_init_o, List.forall_mem_append.mpr ⟨itX00, List.forall_mem_append.mpr ⟨itX40, List.forall_mem_append.mpr ⟨itX4_init, fun _ h => absurd h List.not_mem_nil⟩⟩⟩⟩⟩
