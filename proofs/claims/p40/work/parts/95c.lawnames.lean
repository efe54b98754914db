theorem dL_law_564 : decode cL_law 564 = .ok (.pop, 1) := tb_d tk_L_law_8 28 (564, .pop, 1) rfl
theorem dL_law_565 : decode cL_law 565 = .ok (.aload_n 2, 1) := tb_d tk_L_law_8 29 (565, .aload_n 2, 1) rfl
theorem dL_law_566 : decode cL_law 566 = .ok (.aload_n 0, 1) := tb_d tk_L_law_8 30 (566, .aload_n 0, 1) rfl
theorem dL_law_567 : decode cL_law 567 = .ok (.iload_n 3, 1) := tb_d tk_L_law_8 31 (567, .iload_n 3, 1) rfl
theorem dL_law_568 : decode cL_law 568 = .ok (.iconst 1, 1) := tb_d tk_L_law_8 32 (568, .iconst 1, 1) rfl
theorem dL_law_569 : decode cL_law 569 = .ok (.iadd, 1) := tb_d tk_L_law_8 33 (569, .iadd, 1) rfl
theorem dL_law_570 : decode cL_law 570 = .ok (.iaload, 1) := tb_d tk_L_law_8 34 (570, .iaload, 1) rfl
theorem dL_law_571 : decode cL_law 571 = .ok (.aload_n 0, 1) := tb_d tk_L_law_8 35 (571, .aload_n 0, 1) rfl
theorem dL_law_572 : decode cL_law 572 = .ok (.iload_n 3, 1) := tb_d tk_L_law_8 36 (572, .iload_n 3, 1) rfl
theorem dL_law_573 : decode cL_law 573 = .ok (.iconst 2, 1) := tb_d tk_L_law_8 37 (573, .iconst 2, 1) rfl
theorem dL_law_574 : decode cL_law 574 = .ok (.iadd, 1) := tb_d tk_L_law_8 38 (574, .iadd, 1) rfl
theorem dL_law_575 : decode cL_law 575 = .ok (.iaload, 1) := tb_d tk_L_law_8 39 (575, .iaload, 1) rfl
def tb_L_law_9 : List (Nat × Instr × Nat) := [(576, .invokevirtual 69, 3), (579, .pop, 1), (580, .goto 841, 3), (583, .aload_n 1, 1), (584, .aload_n 0, 1), (585, .iload_n 3, 1), (586, .iconst 1, 1), (587, .iadd, 1), (588, .iaload, 1), (589, .aload_n 0, 1), (590, .iload_n 3, 1), (591, .iconst 2, 1), (592, .iadd, 1), (593, .iaload, 1), (594, .aload_n 0, 1), (595, .iload_n 3, 1), (596, .iconst 3, 1), (597, .iadd, 1), (598, .iaload, 1), (599, .invokevirtual 70, 3), (602, .pop, 1), (603, .aload_n 2, 1), (604, .aload_n 0, 1), (605, .iload_n 3, 1), (606, .iconst 1, 1), (607, .iadd, 1), (608, .iaload, 1), (609, .aload_n 0, 1), (610, .iload_n 3, 1), (611, .iconst 2, 1), (612, .iadd, 1), (613, .iaload, 1), (614, .aload_n 0, 1), (615, .iload_n 3, 1), (616, .iconst 3, 1), (617, .iadd, 1), (618, .iaload, 1), (619, .invokevirtual 73, 3), (622, .pop, 1), (623, .goto 798, 3)]
set_option maxRecDepth 100000 in
theorem tk_L_law_9 : (tb_L_law_9.all fun q => decide (decode cL_law q.1 = .ok q.2)) = true := by decide +kernel
theorem dL_law_576 : decode cL_law 576 = .ok (.invokevirtual 69, 3) := tb_d tk_L_law_9 0 (576, .invokevirtual 69, 3) rfl
theorem dL_law_579 : decode cL_law 579 = .ok (.pop, 1) := tb_d tk_L_law_9 1 (579, .pop, 1) rfl
theorem dL_law_580 : decode cL_law 580 = .ok (.goto 841, 3) := tb_d tk_L_law_9 2 (580, .goto 841, 3) rfl
theorem dL_law_583 : decode cL_law 583 = .ok (.aload_n 1, 1) := tb_d tk_L_law_9 3 (583, .aload_n 1, 1) rfl
theorem dL_law_584 : decode cL_law 584 = .ok (.aload_n 0, 1) := tb_d tk_L_law_9 4 (584, .aload_n 0, 1) rfl
theorem dL_law_585 : decode cL_law 585 = .ok (.iload_n 3, 1) := tb_d tk_L_law_9 5 (585, .iload_n 3, 1) rfl
theorem dL_law_586 : decode cL_law 586 = .ok (.iconst 1, 1) := tb_d tk_L_law_9 6 (586, .iconst 1, 1) rfl
theorem dL_law_587 : decode cL_law 587 = .ok (.iadd, 1) := tb_d tk_L_law_9 7 (587, .iadd, 1) rfl
theorem dL_law_588 : decode cL_law 588 = .ok (.iaload, 1) := tb_d tk_L_law_9 8 (588, .iaload, 1) rfl
theorem dL_law_589 : decode cL_law 589 = .ok (.aload_n 0, 1) := tb_d tk_L_law_9 9 (589, .aload_n 0, 1) rfl
theorem dL_law_590 : decode cL_law 590 = .ok (.iload_n 3, 1) := tb_d tk_L_law_9 10 (590, .iload_n 3, 1) rfl
theorem dL_law_591 : decode cL_law 591 = .ok (.iconst 2, 1) := tb_d tk_L_law_9 11 (591, .iconst 2, 1) rfl
theorem dL_law_592 : decode cL_law 592 = .ok (.iadd, 1) := tb_d tk_L_law_9 12 (592, .iadd, 1) rfl
theorem dL_law_593 : decode cL_law 593 = .ok (.iaload, 1) := tb_d tk_L_law_9 13 (593, .iaload, 1) rfl
theorem dL_law_594 : decode cL_law 594 = .ok (.aload_n 0, 1) := tb_d tk_L_law_9 14 (594, .aload_n 0, 1) rfl
theorem dL_law_595 : decode cL_law 595 = .ok (.iload_n 3, 1) := tb_d tk_L_law_9 15 (595, .iload_n 3, 1) rfl
theorem dL_law_596 : decode cL_law 596 = .ok (.iconst 3, 1) := tb_d tk_L_law_9 16 (596, .iconst 3, 1) rfl
theorem dL_law_597 : decode cL_law 597 = .ok (.iadd, 1) := tb_d tk_L_law_9 17 (597, .iadd, 1) rfl
theorem dL_law_598 : decode cL_law 598 = .ok (.iaload, 1) := tb_d tk_L_law_9 18 (598, .iaload, 1) rfl
theorem dL_law_599 : decode cL_law 599 = .ok (.invokevirtual 70, 3) := tb_d tk_L_law_9 19 (599, .invokevirtual 70, 3) rfl
theorem dL_law_602 : decode cL_law 602 = .ok (.pop, 1) := tb_d tk_L_law_9 20 (602, .pop, 1) rfl
theorem dL_law_603 : decode cL_law 603 = .ok (.aload_n 2, 1) := tb_d tk_L_law_9 21 (603, .aload_n 2, 1) rfl
theorem dL_law_604 : decode cL_law 604 = .ok (.aload_n 0, 1) := tb_d tk_L_law_9 22 (604, .aload_n 0, 1) rfl
theorem dL_law_605 : decode cL_law 605 = .ok (.iload_n 3, 1) := tb_d tk_L_law_9 23 (605, .iload_n 3, 1) rfl
theorem dL_law_606 : decode cL_law 606 = .ok (.iconst 1, 1) := tb_d tk_L_law_9 24 (606, .iconst 1, 1) rfl
theorem dL_law_607 : decode cL_law 607 = .ok (.iadd, 1) := tb_d tk_L_law_9 25 (607, .iadd, 1) rfl
theorem dL_law_608 : decode cL_law 608 = .ok (.iaload, 1) := tb_d tk_L_law_9 26 (608, .iaload, 1) rfl
theorem dL_law_609 : decode cL_law 609 = .ok (.aload_n 0, 1) := tb_d tk_L_law_9 27 (609, .aload_n 0, 1) rfl
theorem dL_law_610 : decode cL_law 610 = .ok (.iload_n 3, 1) := tb_d tk_L_law_9 28 (610, .iload_n 3, 1) rfl
theorem dL_law_611 : decode cL_law 611 = .ok (.iconst 2, 1) := tb_d tk_L_law_9 29 (611, .iconst 2, 1) rfl
theorem dL_law_612 : decode cL_law 612 = .ok (.iadd, 1) := tb_d tk_L_law_9 30 (612, .iadd, 1) rfl
theorem dL_law_613 : decode cL_law 613 = .ok (.iaload, 1) := tb_d tk_L_law_9 31 (613, .iaload, 1) rfl
theorem dL_law_614 : decode cL_law 614 = .ok (.aload_n 0, 1) := tb_d tk_L_law_9 32 (614, .aload_n 0, 1) rfl
theorem dL_law_615 : decode cL_law 615 = .ok (.iload_n 3, 1) := tb_d tk_L_law_9 33 (615, .iload_n 3, 1) rfl
theorem dL_law_616 : decode cL_law 616 = .ok (.iconst 3, 1) := tb_d tk_L_law_9 34 (616, .iconst 3, 1) rfl
theorem dL_law_617 : decode cL_law 617 = .ok (.iadd, 1) := tb_d tk_L_law_9 35 (617, .iadd, 1) rfl
theorem dL_law_618 : decode cL_law 618 = .ok (.iaload, 1) := tb_d tk_L_law_9 36 (618, .iaload, 1) rfl
theorem dL_law_619 : decode cL_law 619 = .ok (.invokevirtual 73, 3) := tb_d tk_L_law_9 37 (619, .invokevirtual 73, 3) rfl
theorem dL_law_622 : decode cL_law 622 = .ok (.pop, 1) := tb_d tk_L_law_9 38 (622, .pop, 1) rfl
theorem dL_law_623 : decode cL_law 623 = .ok (.goto 798, 3) := tb_d tk_L_law_9 39 (623, .goto 798, 3) rfl
def tb_L_law_10 : List (Nat × Instr × Nat) := [(626, .aload_n 1, 1), (627, .aload_n 0, 1), (628, .iload_n 3, 1), (629, .iconst 1, 1), (630, .iadd, 1), (631, .iaload, 1), (632, .aload_n 0, 1), (633, .iload_n 3, 1), (634, .iconst 2, 1), (635, .iadd, 1), (636, .iaload, 1), (637, .invokevirtual 74, 3), (640, .pop, 1), (641, .aload_n 2, 1), (642, .aload_n 0, 1), (643, .iload_n 3, 1), (644, .iconst 1, 1), (645, .iadd, 1), (646, .iaload, 1), (647, .aload_n 0, 1), (648, .iload_n 3, 1), (649, .iconst 2, 1), (650, .iadd, 1), (651, .iaload, 1), (652, .invokevirtual 77, 3), (655, .pop, 1), (656, .goto 765, 3), (659, .aload_n 1, 1), (660, .aload_n 0, 1), (661, .iload_n 3, 1), (662, .iconst 1, 1), (663, .iadd, 1), (664, .iaload, 1), (665, .aload_n 0, 1), (666, .iload_n 3, 1), (667, .iconst 2, 1), (668, .iadd, 1), (669, .iaload, 1), (670, .invokevirtual 78, 3), (673, .pop, 1)]
set_option maxRecDepth 100000 in
theorem tk_L_law_10 : (tb_L_law_10.all fun q => decide (decode cL_law q.1 = .ok q.2)) = true := by decide +kernel
theorem dL_law_626 : decode cL_law 626 = .ok (.aload_n 1, 1) := tb_d tk_L_law_10 0 (626, .aload_n 1, 1) rfl
theorem dL_law_627 : decode cL_law 627 = .ok (.aload_n 0, 1) := tb_d tk_L_law_10 1 (627, .aload_n 0, 1) rfl
theorem dL_law_628 : decode cL_law 628 = .ok (.iload_n 3, 1) := tb_d tk_L_law_10 2 (628, .iload_n 3, 1) rfl
theorem dL_law_629 : decode cL_law 629 = .ok (.iconst 1, 1) := tb_d tk_L_law_10 3 (629, .iconst 1, 1) rfl
theorem dL_law_630 : decode cL_law 630 = .ok (.iadd, 1) := tb_d tk_L_law_10 4 (630, .iadd, 1) rfl
theorem dL_law_631 : decode cL_law 631 = .ok (.iaload, 1) := tb_d tk_L_law_10 5 (631, .iaload, 1) rfl
theorem dL_law_632 : decode cL_law 632 = .ok (.aload_n 0, 1) := tb_d tk_L_law_10 6 (632, .aload_n 0, 1) rfl
theorem dL_law_633 : decode cL_law 633 = .ok (.iload_n 3, 1) := tb_d tk_L_law_10 7 (633, .iload_n 3, 1) rfl
theorem dL_law_634 : decode cL_law 634 = .ok (.iconst 2, 1) := tb_d tk_L_law_10 8 (634, .iconst 2, 1) rfl
theorem dL_law_635 : decode cL_law 635 = .ok (.iadd, 1) := tb_d tk_L_law_10 9 (635, .iadd, 1) rfl
theorem dL_law_636 : decode cL_law 636 = .ok (.iaload, 1) := tb_d tk_L_law_10 10 (636, .iaload, 1) rfl
theorem dL_law_637 : decode cL_law 637 = .ok (.invokevirtual 74, 3) := tb_d tk_L_law_10 11 (637, .invokevirtual 74, 3) rfl
theorem dL_law_640 : decode cL_law 640 = .ok (.pop, 1) := tb_d tk_L_law_10 12 (640, .pop, 1) rfl
theorem dL_law_641 : decode cL_law 641 = .ok (.aload_n 2, 1) := tb_d tk_L_law_10 13 (641, .aload_n 2, 1) rfl
theorem dL_law_642 : decode cL_law 642 = .ok (.aload_n 0, 1) := tb_d tk_L_law_10 14 (642, .aload_n 0, 1) rfl
theorem dL_law_643 : decode cL_law 643 = .ok (.iload_n 3, 1) := tb_d tk_L_law_10 15 (643, .iload_n 3, 1) rfl
theorem dL_law_644 : decode cL_law 644 = .ok (.iconst 1, 1) := tb_d tk_L_law_10 16 (644, .iconst 1, 1) rfl
theorem dL_law_645 : decode cL_law 645 = .ok (.iadd, 1) := tb_d tk_L_law_10 17 (645, .iadd, 1) rfl
theorem dL_law_646 : decode cL_law 646 = .ok (.iaload, 1) := tb_d tk_L_law_10 18 (646, .iaload, 1) rfl
theorem dL_law_647 : decode cL_law 647 = .ok (.aload_n 0, 1) := tb_d tk_L_law_10 19 (647, .aload_n 0, 1) rfl
theorem dL_law_648 : decode cL_law 648 = .ok (.iload_n 3, 1) := tb_d tk_L_law_10 20 (648, .iload_n 3, 1) rfl
theorem dL_law_649 : decode cL_law 649 = .ok (.iconst 2, 1) := tb_d tk_L_law_10 21 (649, .iconst 2, 1) rfl
theorem dL_law_650 : decode cL_law 650 = .ok (.iadd, 1) := tb_d tk_L_law_10 22 (650, .iadd, 1) rfl
theorem dL_law_651 : decode cL_law 651 = .ok (.iaload, 1) := tb_d tk_L_law_10 23 (651, .iaload, 1) rfl
theorem dL_law_652 : decode cL_law 652 = .ok (.invokevirtual 77, 3) := tb_d tk_L_law_10 24 (652, .invokevirtual 77, 3) rfl
theorem dL_law_655 : decode cL_law 655 = .ok (.pop, 1) := tb_d tk_L_law_10 25 (655, .pop, 1) rfl
theorem dL_law_656 : decode cL_law 656 = .ok (.goto 765, 3) := tb_d tk_L_law_10 26 (656, .goto 765, 3) rfl
theorem dL_law_659 : decode cL_law 659 = .ok (.aload_n 1, 1) := tb_d tk_L_law_10 27 (659, .aload_n 1, 1) rfl
theorem dL_law_660 : decode cL_law 660 = .ok (.aload_n 0, 1) := tb_d tk_L_law_10 28 (660, .aload_n 0, 1) rfl
theorem dL_law_661 : decode cL_law 661 = .ok (.iload_n 3, 1) := tb_d tk_L_law_10 29 (661, .iload_n 3, 1) rfl
theorem dL_law_662 : decode cL_law 662 = .ok (.iconst 1, 1) := tb_d tk_L_law_10 30 (662, .iconst 1, 1) rfl
theorem dL_law_663 : decode cL_law 663 = .ok (.iadd, 1) := tb_d tk_L_law_10 31 (663, .iadd, 1) rfl
theorem dL_law_664 : decode cL_law 664 = .ok (.iaload, 1) := tb_d tk_L_law_10 32 (664, .iaload, 1) rfl
theorem dL_law_665 : decode cL_law 665 = .ok (.aload_n 0, 1) := tb_d tk_L_law_10 33 (665, .aload_n 0, 1) rfl
theorem dL_law_666 : decode cL_law 666 = .ok (.iload_n 3, 1) := tb_d tk_L_law_10 34 (666, .iload_n 3, 1) rfl
theorem dL_law_667 : decode cL_law 667 = .ok (.iconst 2, 1) := tb_d tk_L_law_10 35 (667, .iconst 2, 1) rfl
theorem dL_law_668 : decode cL_law 668 = .ok (.iadd, 1) := tb_d tk_L_law_10 36 (668, .iadd, 1) rfl
theorem dL_law_669 : decode cL_law 669 = .ok (.iaload, 1) := tb_d tk_L_law_10 37 (669, .iaload, 1) rfl
theorem dL_law_670 : decode cL_law 670 = .ok (.invokevirtual 78, 3) := tb_d tk_L_law_10 38 (670, .invokevirtual 78, 3) rfl
theorem dL_law_673 : decode cL_law 673 = .ok (.pop, 1) := tb_d tk_L_law_10 39 (673, .pop, 1) rfl
def tb_L_law_11 : List (Nat × Instr × Nat) := [(674, .aload_n 2, 1), (675, .aload_n 0, 1), (676, .iload_n 3, 1), (677, .iconst 1, 1), (678, .iadd, 1), (679, .iaload, 1), (680, .aload_n 0, 1), (681, .iload_n 3, 1), (682, .iconst 2, 1), (683, .iadd, 1), (684, .iaload, 1), (685, .invokevirtual 81, 3), (688, .pop, 1), (689, .goto 732, 3), (692, .aload_n 1, 1), (693, .aload_n 0, 1), (694, .iload_n 3, 1), (695, .iconst 1, 1), (696, .iadd, 1), (697, .iaload, 1), (698, .invokevirtual 82, 3), (701, .pop, 1), (702, .aload_n 2, 1), (703, .aload_n 0, 1), (704, .iload_n 3, 1), (705, .iconst 1, 1), (706, .iadd, 1), (707, .iaload, 1), (708, .invokevirtual 85, 3), (711, .pop, 1), (712, .goto 709, 3), (715, .aload_n 1, 1), (716, .aload_n 0, 1), (717, .iload_n 3, 1), (718, .iconst 1, 1), (719, .iadd, 1), (720, .iaload, 1), (721, .aload_n 0, 1), (722, .iload_n 3, 1), (723, .iconst 2, 1)]
set_option maxRecDepth 100000 in
theorem tk_L_law_11 : (tb_L_law_11.all fun q => decide (decode cL_law q.1 = .ok q.2)) = true := by decide +kernel
theorem dL_law_674 : decode cL_law 674 = .ok (.aload_n 2, 1) := tb_d tk_L_law_11 0 (674, .aload_n 2, 1) rfl
theorem dL_law_675 : decode cL_law 675 = .ok (.aload_n 0, 1) := tb_d tk_L_law_11 1 (675, .aload_n 0, 1) rfl
theorem dL_law_676 : decode cL_law 676 = .ok (.iload_n 3, 1) := tb_d tk_L_law_11 2 (676, .iload_n 3, 1) rfl
theorem dL_law_677 : decode cL_law 677 = .ok (.iconst 1, 1) := tb_d tk_L_law_11 3 (677, .iconst 1, 1) rfl
theorem dL_law_678 : decode cL_law 678 = .ok (.iadd, 1) := tb_d tk_L_law_11 4 (678, .iadd, 1) rfl
theorem dL_law_679 : decode cL_law 679 = .ok (.iaload, 1) := tb_d tk_L_law_11 5 (679, .iaload, 1) rfl
theorem dL_law_680 : decode cL_law 680 = .ok (.aload_n 0, 1) := tb_d tk_L_law_11 6 (680, .aload_n 0, 1) rfl
theorem dL_law_681 : decode cL_law 681 = .ok (.iload_n 3, 1) := tb_d tk_L_law_11 7 (681, .iload_n 3, 1) rfl
theorem dL_law_682 : decode cL_law 682 = .ok (.iconst 2, 1) := tb_d tk_L_law_11 8 (682, .iconst 2, 1) rfl
theorem dL_law_683 : decode cL_law 683 = .ok (.iadd, 1) := tb_d tk_L_law_11 9 (683, .iadd, 1) rfl
theorem dL_law_684 : decode cL_law 684 = .ok (.iaload, 1) := tb_d tk_L_law_11 10 (684, .iaload, 1) rfl
theorem dL_law_685 : decode cL_law 685 = .ok (.invokevirtual 81, 3) := tb_d tk_L_law_11 11 (685, .invokevirtual 81, 3) rfl
theorem dL_law_688 : decode cL_law 688 = .ok (.pop, 1) := tb_d tk_L_law_11 12 (688, .pop, 1) rfl
theorem dL_law_689 : decode cL_law 689 = .ok (.goto 732, 3) := tb_d tk_L_law_11 13 (689, .goto 732, 3) rfl
theorem dL_law_692 : decode cL_law 692 = .ok (.aload_n 1, 1) := tb_d tk_L_law_11 14 (692, .aload_n 1, 1) rfl
theorem dL_law_693 : decode cL_law 693 = .ok (.aload_n 0, 1) := tb_d tk_L_law_11 15 (693, .aload_n 0, 1) rfl
theorem dL_law_694 : decode cL_law 694 = .ok (.iload_n 3, 1) := tb_d tk_L_law_11 16 (694, .iload_n 3, 1) rfl
theorem dL_law_695 : decode cL_law 695 = .ok (.iconst 1, 1) := tb_d tk_L_law_11 17 (695, .iconst 1, 1) rfl
theorem dL_law_696 : decode cL_law 696 = .ok (.iadd, 1) := tb_d tk_L_law_11 18 (696, .iadd, 1) rfl
theorem dL_law_697 : decode cL_law 697 = .ok (.iaload, 1) := tb_d tk_L_law_11 19 (697, .iaload, 1) rfl
theorem dL_law_698 : decode cL_law 698 = .ok (.invokevirtual 82, 3) := tb_d tk_L_law_11 20 (698, .invokevirtual 82, 3) rfl
theorem dL_law_701 : decode cL_law 701 = .ok (.pop, 1) := tb_d tk_L_law_11 21 (701, .pop, 1) rfl
theorem dL_law_702 : decode cL_law 702 = .ok (.aload_n 2, 1) := tb_d tk_L_law_11 22 (702, .aload_n 2, 1) rfl
theorem dL_law_703 : decode cL_law 703 = .ok (.aload_n 0, 1) := tb_d tk_L_law_11 23 (703, .aload_n 0, 1) rfl
theorem dL_law_704 : decode cL_law 704 = .ok (.iload_n 3, 1) := tb_d tk_L_law_11 24 (704, .iload_n 3, 1) rfl
theorem dL_law_705 : decode cL_law 705 = .ok (.iconst 1, 1) := tb_d tk_L_law_11 25 (705, .iconst 1, 1) rfl
theorem dL_law_706 : decode cL_law 706 = .ok (.iadd, 1) := tb_d tk_L_law_11 26 (706, .iadd, 1) rfl
theorem dL_law_707 : decode cL_law 707 = .ok (.iaload, 1) := tb_d tk_L_law_11 27 (707, .iaload, 1) rfl
theorem dL_law_708 : decode cL_law 708 = .ok (.invokevirtual 85, 3) := tb_d tk_L_law_11 28 (708, .invokevirtual 85, 3) rfl
theorem dL_law_711 : decode cL_law 711 = .ok (.pop, 1) := tb_d tk_L_law_11 29 (711, .pop, 1) rfl
theorem dL_law_712 : decode cL_law 712 = .ok (.goto 709, 3) := tb_d tk_L_law_11 30 (712, .goto 709, 3) rfl
theorem dL_law_715 : decode cL_law 715 = .ok (.aload_n 1, 1) := tb_d tk_L_law_11 31 (715, .aload_n 1, 1) rfl
theorem dL_law_716 : decode cL_law 716 = .ok (.aload_n 0, 1) := tb_d tk_L_law_11 32 (716, .aload_n 0, 1) rfl
theorem dL_law_717 : decode cL_law 717 = .ok (.iload_n 3, 1) := tb_d tk_L_law_11 33 (717, .iload_n 3, 1) rfl
theorem dL_law_718 : decode cL_law 718 = .ok (.iconst 1, 1) := tb_d tk_L_law_11 34 (718, .iconst 1, 1) rfl
theorem dL_law_719 : decode cL_law 719 = .ok (.iadd, 1) := tb_d tk_L_law_11 35 (719, .iadd, 1) rfl
theorem dL_law_720 : decode cL_law 720 = .ok (.iaload, 1) := tb_d tk_L_law_11 36 (720, .iaload, 1) rfl
theorem dL_law_721 : decode cL_law 721 = .ok (.aload_n 0, 1) := tb_d tk_L_law_11 37 (721, .aload_n 0, 1) rfl
theorem dL_law_722 : decode cL_law 722 = .ok (.iload_n 3, 1) := tb_d tk_L_law_11 38 (722, .iload_n 3, 1) rfl
theorem dL_law_723 : decode cL_law 723 = .ok (.iconst 2, 1) := tb_d tk_L_law_11 39 (723, .iconst 2, 1) rfl
def tb_L_law_12 : List (Nat × Instr × Nat) := [(724, .iadd, 1), (725, .iaload, 1), (726, .aload_n 0, 1), (727, .iload_n 3, 1), (728, .iconst 3, 1), (729, .iadd, 1), (730, .iaload, 1), (731, .invokevirtual 86, 3), (734, .pop, 1), (735, .aload_n 2, 1), (736, .aload_n 0, 1), (737, .iload_n 3, 1), (738, .iconst 1, 1), (739, .iadd, 1), (740, .iaload, 1), (741, .aload_n 0, 1), (742, .iload_n 3, 1), (743, .iconst 2, 1), (744, .iadd, 1), (745, .iaload, 1), (746, .aload_n 0, 1), (747, .iload_n 3, 1), (748, .iconst 3, 1), (749, .iadd, 1), (750, .iaload, 1), (751, .invokevirtual 89, 3), (754, .pop, 1), (755, .goto 666, 3), (758, .aload_n 1, 1), (759, .aload_n 0, 1), (760, .iload_n 3, 1), (761, .iconst 1, 1), (762, .iadd, 1), (763, .iaload, 1), (764, .aload_n 0, 1), (765, .iload_n 3, 1), (766, .iconst 2, 1), (767, .iadd, 1), (768, .iaload, 1), (769, .invokevirtual 90, 3)]
set_option maxRecDepth 100000 in
theorem tk_L_law_12 : (tb_L_law_12.all fun q => decide (decode cL_law q.1 = .ok q.2)) = true := by decide +kernel
theorem dL_law_724 : decode cL_law 724 = .ok (.iadd, 1) := tb_d tk_L_law_12 0 (724, .iadd, 1) rfl
theorem dL_law_725 : decode cL_law 725 = .ok (.iaload, 1) := tb_d tk_L_law_12 1 (725, .iaload, 1) rfl
theorem dL_law_726 : decode cL_law 726 = .ok (.aload_n 0, 1) := tb_d tk_L_law_12 2 (726, .aload_n 0, 1) rfl
theorem dL_law_727 : decode cL_law 727 = .ok (.iload_n 3, 1) := tb_d tk_L_law_12 3 (727, .iload_n 3, 1) rfl
theorem dL_law_728 : decode cL_law 728 = .ok (.iconst 3, 1) := tb_d tk_L_law_12 4 (728, .iconst 3, 1) rfl
theorem dL_law_729 : decode cL_law 729 = .ok (.iadd, 1) := tb_d tk_L_law_12 5 (729, .iadd, 1) rfl
theorem dL_law_730 : decode cL_law 730 = .ok (.iaload, 1) := tb_d tk_L_law_12 6 (730, .iaload, 1) rfl
theorem dL_law_731 : decode cL_law 731 = .ok (.invokevirtual 86, 3) := tb_d tk_L_law_12 7 (731, .invokevirtual 86, 3) rfl
theorem dL_law_734 : decode cL_law 734 = .ok (.pop, 1) := tb_d tk_L_law_12 8 (734, .pop, 1) rfl
theorem dL_law_735 : decode cL_law 735 = .ok (.aload_n 2, 1) := tb_d tk_L_law_12 9 (735, .aload_n 2, 1) rfl
theorem dL_law_736 : decode cL_law 736 = .ok (.aload_n 0, 1) := tb_d tk_L_law_12 10 (736, .aload_n 0, 1) rfl
theorem dL_law_737 : decode cL_law 737 = .ok (.iload_n 3, 1) := tb_d tk_L_law_12 11 (737, .iload_n 3, 1) rfl
theorem dL_law_738 : decode cL_law 738 = .ok (.iconst 1, 1) := tb_d tk_L_law_12 12 (738, .iconst 1, 1) rfl
theorem dL_law_739 : decode cL_law 739 = .ok (.iadd, 1) := tb_d tk_L_law_12 13 (739, .iadd, 1) rfl
theorem dL_law_740 : decode cL_law 740 = .ok (.iaload, 1) := tb_d tk_L_law_12 14 (740, .iaload, 1) rfl
theorem dL_law_741 : decode cL_law 741 = .ok (.aload_n 0, 1) := tb_d tk_L_law_12 15 (741, .aload_n 0, 1) rfl
theorem dL_law_742 : decode cL_law 742 = .ok (.iload_n 3, 1) := tb_d tk_L_law_12 16 (742, .iload_n 3, 1) rfl
theorem dL_law_743 : decode cL_law 743 = .ok (.iconst 2, 1) := tb_d tk_L_law_12 17 (743, .iconst 2, 1) rfl
theorem dL_law_744 : decode cL_law 744 = .ok (.iadd, 1) := tb_d tk_L_law_12 18 (744, .iadd, 1) rfl
theorem dL_law_745 : decode cL_law 745 = .ok (.iaload, 1) := tb_d tk_L_law_12 19 (745, .iaload, 1) rfl
theorem dL_law_746 : decode cL_law 746 = .ok (.aload_n 0, 1) := tb_d tk_L_law_12 20 (746, .aload_n 0, 1) rfl
theorem dL_law_747 : decode cL_law 747 = .ok (.iload_n 3, 1) := tb_d tk_L_law_12 21 (747, .iload_n 3, 1) rfl
theorem dL_law_748 : decode cL_law 748 = .ok (.iconst 3, 1) := tb_d tk_L_law_12 22 (748, .iconst 3, 1) rfl
theorem dL_law_749 : decode cL_law 749 = .ok (.iadd, 1) := tb_d tk_L_law_12 23 (749, .iadd, 1) rfl
theorem dL_law_750 : decode cL_law 750 = .ok (.iaload, 1) := tb_d tk_L_law_12 24 (750, .iaload, 1) rfl
theorem dL_law_751 : decode cL_law 751 = .ok (.invokevirtual 89, 3) := tb_d tk_L_law_12 25 (751, .invokevirtual 89, 3) rfl
theorem dL_law_754 : decode cL_law 754 = .ok (.pop, 1) := tb_d tk_L_law_12 26 (754, .pop, 1) rfl
theorem dL_law_755 : decode cL_law 755 = .ok (.goto 666, 3) := tb_d tk_L_law_12 27 (755, .goto 666, 3) rfl
theorem dL_law_758 : decode cL_law 758 = .ok (.aload_n 1, 1) := tb_d tk_L_law_12 28 (758, .aload_n 1, 1) rfl
theorem dL_law_759 : decode cL_law 759 = .ok (.aload_n 0, 1) := tb_d tk_L_law_12 29 (759, .aload_n 0, 1) rfl
theorem dL_law_760 : decode cL_law 760 = .ok (.iload_n 3, 1) := tb_d tk_L_law_12 30 (760, .iload_n 3, 1) rfl
theorem dL_law_761 : decode cL_law 761 = .ok (.iconst 1, 1) := tb_d tk_L_law_12 31 (761, .iconst 1, 1) rfl
theorem dL_law_762 : decode cL_law 762 = .ok (.iadd, 1) := tb_d tk_L_law_12 32 (762, .iadd, 1) rfl
theorem dL_law_763 : decode cL_law 763 = .ok (.iaload, 1) := tb_d tk_L_law_12 33 (763, .iaload, 1) rfl
theorem dL_law_764 : decode cL_law 764 = .ok (.aload_n 0, 1) := tb_d tk_L_law_12 34 (764, .aload_n 0, 1) rfl
theorem dL_law_765 : decode cL_law 765 = .ok (.iload_n 3, 1) := tb_d tk_L_law_12 35 (765, .iload_n 3, 1) rfl
theorem dL_law_766 : decode cL_law 766 = .ok (.iconst 2, 1) := tb_d tk_L_law_12 36 (766, .iconst 2, 1) rfl
theorem dL_law_767 : decode cL_law 767 = .ok (.iadd, 1) := tb_d tk_L_law_12 37 (767, .iadd, 1) rfl
theorem dL_law_768 : decode cL_law 768 = .ok (.iaload, 1) := tb_d tk_L_law_12 38 (768, .iaload, 1) rfl
theorem dL_law_769 : decode cL_law 769 = .ok (.invokevirtual 90, 3) := tb_d tk_L_law_12 39 (769, .invokevirtual 90, 3) rfl
def tb_L_law_13 : List (Nat × Instr × Nat) := [(772, .pop, 1), (773, .aload_n 2, 1), (774, .aload_n 0, 1), (775, .iload_n 3, 1), (776, .iconst 1, 1), (777, .iadd, 1), (778, .iaload, 1), (779, .aload_n 0, 1), (780, .iload_n 3, 1), (781, .iconst 2, 1), (782, .iadd, 1), (783, .iaload, 1), (784, .invokevirtual 93, 3), (787, .pop, 1), (788, .goto 633, 3), (791, .aload_n 1, 1), (792, .aload_n 0, 1), (793, .iload_n 3, 1), (794, .iconst 1, 1), (795, .iadd, 1), (796, .iaload, 1), (797, .aload_n 0, 1), (798, .iload_n 3, 1), (799, .iconst 2, 1), (800, .iadd, 1), (801, .iaload, 1), (802, .invokevirtual 94, 3), (805, .pop, 1), (806, .aload_n 2, 1), (807, .aload_n 0, 1), (808, .iload_n 3, 1), (809, .iconst 1, 1), (810, .iadd, 1), (811, .iaload, 1), (812, .aload_n 0, 1), (813, .iload_n 3, 1), (814, .iconst 2, 1), (815, .iadd, 1), (816, .iaload, 1), (817, .invokevirtual 97, 3)]
set_option maxRecDepth 100000 in
theorem tk_L_law_13 : (tb_L_law_13.all fun q => decide (decode cL_law q.1 = .ok q.2)) = true := by decide +kernel
theorem dL_law_772 : decode cL_law 772 = .ok (.pop, 1) := tb_d tk_L_law_13 0 (772, .pop, 1) rfl
theorem dL_law_773 : decode cL_law 773 = .ok (.aload_n 2, 1) := tb_d tk_L_law_13 1 (773, .aload_n 2, 1) rfl
theorem dL_law_774 : decode cL_law 774 = .ok (.aload_n 0, 1) := tb_d tk_L_law_13 2 (774, .aload_n 0, 1) rfl
theorem dL_law_775 : decode cL_law 775 = .ok (.iload_n 3, 1) := tb_d tk_L_law_13 3 (775, .iload_n 3, 1) rfl
theorem dL_law_776 : decode cL_law 776 = .ok (.iconst 1, 1) := tb_d tk_L_law_13 4 (776, .iconst 1, 1) rfl
theorem dL_law_777 : decode cL_law 777 = .ok (.iadd, 1) := tb_d tk_L_law_13 5 (777, .iadd, 1) rfl
theorem dL_law_778 : decode cL_law 778 = .ok (.iaload, 1) := tb_d tk_L_law_13 6 (778, .iaload, 1) rfl
theorem dL_law_779 : decode cL_law 779 = .ok (.aload_n 0, 1) := tb_d tk_L_law_13 7 (779, .aload_n 0, 1) rfl
theorem dL_law_780 : decode cL_law 780 = .ok (.iload_n 3, 1) := tb_d tk_L_law_13 8 (780, .iload_n 3, 1) rfl
theorem dL_law_781 : decode cL_law 781 = .ok (.iconst 2, 1) := tb_d tk_L_law_13 9 (781, .iconst 2, 1) rfl
theorem dL_law_782 : decode cL_law 782 = .ok (.iadd, 1) := tb_d tk_L_law_13 10 (782, .iadd, 1) rfl
theorem dL_law_783 : decode cL_law 783 = .ok (.iaload, 1) := tb_d tk_L_law_13 11 (783, .iaload, 1) rfl
theorem dL_law_784 : decode cL_law 784 = .ok (.invokevirtual 93, 3) := tb_d tk_L_law_13 12 (784, .invokevirtual 93, 3) rfl
theorem dL_law_787 : decode cL_law 787 = .ok (.pop, 1) := tb_d tk_L_law_13 13 (787, .pop, 1) rfl
theorem dL_law_788 : decode cL_law 788 = .ok (.goto 633, 3) := tb_d tk_L_law_13 14 (788, .goto 633, 3) rfl
theorem dL_law_791 : decode cL_law 791 = .ok (.aload_n 1, 1) := tb_d tk_L_law_13 15 (791, .aload_n 1, 1) rfl
theorem dL_law_792 : decode cL_law 792 = .ok (.aload_n 0, 1) := tb_d tk_L_law_13 16 (792, .aload_n 0, 1) rfl
theorem dL_law_793 : decode cL_law 793 = .ok (.iload_n 3, 1) := tb_d tk_L_law_13 17 (793, .iload_n 3, 1) rfl
theorem dL_law_794 : decode cL_law 794 = .ok (.iconst 1, 1) := tb_d tk_L_law_13 18 (794, .iconst 1, 1) rfl
theorem dL_law_795 : decode cL_law 795 = .ok (.iadd, 1) := tb_d tk_L_law_13 19 (795, .iadd, 1) rfl
theorem dL_law_796 : decode cL_law 796 = .ok (.iaload, 1) := tb_d tk_L_law_13 20 (796, .iaload, 1) rfl
theorem dL_law_797 : decode cL_law 797 = .ok (.aload_n 0, 1) := tb_d tk_L_law_13 21 (797, .aload_n 0, 1) rfl
theorem dL_law_798 : decode cL_law 798 = .ok (.iload_n 3, 1) := tb_d tk_L_law_13 22 (798, .iload_n 3, 1) rfl
theorem dL_law_799 : decode cL_law 799 = .ok (.iconst 2, 1) := tb_d tk_L_law_13 23 (799, .iconst 2, 1) rfl
theorem dL_law_800 : decode cL_law 800 = .ok (.iadd, 1) := tb_d tk_L_law_13 24 (800, .iadd, 1) rfl
theorem dL_law_801 : decode cL_law 801 = .ok (.iaload, 1) := tb_d tk_L_law_13 25 (801, .iaload, 1) rfl
theorem dL_law_802 : decode cL_law 802 = .ok (.invokevirtual 94, 3) := tb_d tk_L_law_13 26 (802, .invokevirtual 94, 3) rfl
theorem dL_law_805 : decode cL_law 805 = .ok (.pop, 1) := tb_d tk_L_law_13 27 (805, .pop, 1) rfl
theorem dL_law_806 : decode cL_law 806 = .ok (.aload_n 2, 1) := tb_d tk_L_law_13 28 (806, .aload_n 2, 1) rfl
theorem dL_law_807 : decode cL_law 807 = .ok (.aload_n 0, 1) := tb_d tk_L_law_13 29 (807, .aload_n 0, 1) rfl
theorem dL_law_808 : decode cL_law 808 = .ok (.iload_n 3, 1) := tb_d tk_L_law_13 30 (808, .iload_n 3, 1) rfl
theorem dL_law_809 : decode cL_law 809 = .ok (.iconst 1, 1) := tb_d tk_L_law_13 31 (809, .iconst 1, 1) rfl
theorem dL_law_810 : decode cL_law 810 = .ok (.iadd, 1) := tb_d tk_L_law_13 32 (810, .iadd, 1) rfl
theorem dL_law_811 : decode cL_law 811 = .ok (.iaload, 1) := tb_d tk_L_law_13 33 (811, .iaload, 1) rfl
theorem dL_law_812 : decode cL_law 812 = .ok (.aload_n 0, 1) := tb_d tk_L_law_13 34 (812, .aload_n 0, 1) rfl
theorem dL_law_813 : decode cL_law 813 = .ok (.iload_n 3, 1) := tb_d tk_L_law_13 35 (813, .iload_n 3, 1) rfl
theorem dL_law_814 : decode cL_law 814 = .ok (.iconst 2, 1) := tb_d tk_L_law_13 36 (814, .iconst 2, 1) rfl
theorem dL_law_815 : decode cL_law 815 = .ok (.iadd, 1) := tb_d tk_L_law_13 37 (815, .iadd, 1) rfl
theorem dL_law_816 : decode cL_law 816 = .ok (.iaload, 1) := tb_d tk_L_law_13 38 (816, .iaload, 1) rfl
theorem dL_law_817 : decode cL_law 817 = .ok (.invokevirtual 97, 3) := tb_d tk_L_law_13 39 (817, .invokevirtual 97, 3) rfl
def tb_L_law_14 : List (Nat × Instr × Nat) := [(820, .pop, 1), (821, .goto 600, 3), (824, .aload_n 1, 1), (825, .aload_n 0, 1), (826, .iload_n 3, 1), (827, .iconst 1, 1), (828, .iadd, 1), (829, .iaload, 1), (830, .invokevirtual 98, 3), (833, .pop, 1), (834, .aload_n 2, 1), (835, .aload_n 0, 1), (836, .iload_n 3, 1), (837, .iconst 1, 1), (838, .iadd, 1), (839, .iaload, 1), (840, .invokevirtual 101, 3), (843, .pop, 1), (844, .goto 577, 3), (847, .aload_n 1, 1), (848, .invokevirtual 102, 3), (851, .pop, 1), (852, .aload_n 2, 1), (853, .invokevirtual 105, 3), (856, .pop, 1), (857, .goto 564, 3), (860, .aload_n 1, 1), (861, .aload_n 0, 1), (862, .iload_n 3, 1), (863, .iconst 1, 1), (864, .iadd, 1), (865, .iaload, 1), (866, .invokevirtual 106, 3), (869, .pop, 1), (870, .aload_n 2, 1), (871, .aload_n 0, 1), (872, .iload_n 3, 1), (873, .iconst 1, 1), (874, .iadd, 1), (875, .iaload, 1)]
set_option maxRecDepth 100000 in
theorem tk_L_law_14 : (tb_L_law_14.all fun q => decide (decode cL_law q.1 = .ok q.2)) = true := by decide +kernel
theorem dL_law_820 : decode cL_law 820 = .ok (.pop, 1) := tb_d tk_L_law_14 0 (820, .pop, 1) rfl
theorem dL_law_821 : decode cL_law 821 = .ok (.goto 600, 3) := tb_d tk_L_law_14 1 (821, .goto 600, 3) rfl
theorem dL_law_824 : decode cL_law 824 = .ok (.aload_n 1, 1) := tb_d tk_L_law_14 2 (824, .aload_n 1, 1) rfl
theorem dL_law_825 : decode cL_law 825 = .ok (.aload_n 0, 1) := tb_d tk_L_law_14 3 (825, .aload_n 0, 1) rfl
theorem dL_law_826 : decode cL_law 826 = .ok (.iload_n 3, 1) := tb_d tk_L_law_14 4 (826, .iload_n 3, 1) rfl
theorem dL_law_827 : decode cL_law 827 = .ok (.iconst 1, 1) := tb_d tk_L_law_14 5 (827, .iconst 1, 1) rfl
theorem dL_law_828 : decode cL_law 828 = .ok (.iadd, 1) := tb_d tk_L_law_14 6 (828, .iadd, 1) rfl
theorem dL_law_829 : decode cL_law 829 = .ok (.iaload, 1) := tb_d tk_L_law_14 7 (829, .iaload, 1) rfl
theorem dL_law_830 : decode cL_law 830 = .ok (.invokevirtual 98, 3) := tb_d tk_L_law_14 8 (830, .invokevirtual 98, 3) rfl
theorem dL_law_833 : decode cL_law 833 = .ok (.pop, 1) := tb_d tk_L_law_14 9 (833, .pop, 1) rfl
theorem dL_law_834 : decode cL_law 834 = .ok (.aload_n 2, 1) := tb_d tk_L_law_14 10 (834, .aload_n 2, 1) rfl
theorem dL_law_835 : decode cL_law 835 = .ok (.aload_n 0, 1) := tb_d tk_L_law_14 11 (835, .aload_n 0, 1) rfl
theorem dL_law_836 : decode cL_law 836 = .ok (.iload_n 3, 1) := tb_d tk_L_law_14 12 (836, .iload_n 3, 1) rfl
theorem dL_law_837 : decode cL_law 837 = .ok (.iconst 1, 1) := tb_d tk_L_law_14 13 (837, .iconst 1, 1) rfl
theorem dL_law_838 : decode cL_law 838 = .ok (.iadd, 1) := tb_d tk_L_law_14 14 (838, .iadd, 1) rfl
theorem dL_law_839 : decode cL_law 839 = .ok (.iaload, 1) := tb_d tk_L_law_14 15 (839, .iaload, 1) rfl
theorem dL_law_840 : decode cL_law 840 = .ok (.invokevirtual 101, 3) := tb_d tk_L_law_14 16 (840, .invokevirtual 101, 3) rfl
theorem dL_law_843 : decode cL_law 843 = .ok (.pop, 1) := tb_d tk_L_law_14 17 (843, .pop, 1) rfl
theorem dL_law_844 : decode cL_law 844 = .ok (.goto 577, 3) := tb_d tk_L_law_14 18 (844, .goto 577, 3) rfl
theorem dL_law_847 : decode cL_law 847 = .ok (.aload_n 1, 1) := tb_d tk_L_law_14 19 (847, .aload_n 1, 1) rfl
theorem dL_law_848 : decode cL_law 848 = .ok (.invokevirtual 102, 3) := tb_d tk_L_law_14 20 (848, .invokevirtual 102, 3) rfl
theorem dL_law_851 : decode cL_law 851 = .ok (.pop, 1) := tb_d tk_L_law_14 21 (851, .pop, 1) rfl
theorem dL_law_852 : decode cL_law 852 = .ok (.aload_n 2, 1) := tb_d tk_L_law_14 22 (852, .aload_n 2, 1) rfl
theorem dL_law_853 : decode cL_law 853 = .ok (.invokevirtual 105, 3) := tb_d tk_L_law_14 23 (853, .invokevirtual 105, 3) rfl
theorem dL_law_856 : decode cL_law 856 = .ok (.pop, 1) := tb_d tk_L_law_14 24 (856, .pop, 1) rfl
theorem dL_law_857 : decode cL_law 857 = .ok (.goto 564, 3) := tb_d tk_L_law_14 25 (857, .goto 564, 3) rfl
theorem dL_law_860 : decode cL_law 860 = .ok (.aload_n 1, 1) := tb_d tk_L_law_14 26 (860, .aload_n 1, 1) rfl
theorem dL_law_861 : decode cL_law 861 = .ok (.aload_n 0, 1) := tb_d tk_L_law_14 27 (861, .aload_n 0, 1) rfl
theorem dL_law_862 : decode cL_law 862 = .ok (.iload_n 3, 1) := tb_d tk_L_law_14 28 (862, .iload_n 3, 1) rfl
theorem dL_law_863 : decode cL_law 863 = .ok (.iconst 1, 1) := tb_d tk_L_law_14 29 (863, .iconst 1, 1) rfl
theorem dL_law_864 : decode cL_law 864 = .ok (.iadd, 1) := tb_d tk_L_law_14 30 (864, .iadd, 1) rfl
theorem dL_law_865 : decode cL_law 865 = .ok (.iaload, 1) := tb_d tk_L_law_14 31 (865, .iaload, 1) rfl
theorem dL_law_866 : decode cL_law 866 = .ok (.invokevirtual 106, 3) := tb_d tk_L_law_14 32 (866, .invokevirtual 106, 3) rfl
theorem dL_law_869 : decode cL_law 869 = .ok (.pop, 1) := tb_d tk_L_law_14 33 (869, .pop, 1) rfl
theorem dL_law_870 : decode cL_law 870 = .ok (.aload_n 2, 1) := tb_d tk_L_law_14 34 (870, .aload_n 2, 1) rfl
theorem dL_law_871 : decode cL_law 871 = .ok (.aload_n 0, 1) := tb_d tk_L_law_14 35 (871, .aload_n 0, 1) rfl
theorem dL_law_872 : decode cL_law 872 = .ok (.iload_n 3, 1) := tb_d tk_L_law_14 36 (872, .iload_n 3, 1) rfl
theorem dL_law_873 : decode cL_law 873 = .ok (.iconst 1, 1) := tb_d tk_L_law_14 37 (873, .iconst 1, 1) rfl
theorem dL_law_874 : decode cL_law 874 = .ok (.iadd, 1) := tb_d tk_L_law_14 38 (874, .iadd, 1) rfl
theorem dL_law_875 : decode cL_law 875 = .ok (.iaload, 1) := tb_d tk_L_law_14 39 (875, .iaload, 1) rfl
def tb_L_law_15 : List (Nat × Instr × Nat) := [(876, .invokevirtual 109, 3), (879, .pop, 1), (880, .goto 541, 3), (883, .aload_n 1, 1), (884, .invokevirtual 110, 3), (887, .pop, 1), (888, .aload_n 2, 1), (889, .invokevirtual 113, 3), (892, .pop, 1), (893, .goto 528, 3), (896, .aload_n 1, 1), (897, .aload_n 0, 1), (898, .iload_n 3, 1), (899, .iconst 1, 1), (900, .iadd, 1), (901, .iaload, 1), (902, .aload_n 0, 1), (903, .iload_n 3, 1), (904, .iconst 2, 1), (905, .iadd, 1), (906, .iaload, 1), (907, .aload_n 0, 1), (908, .iload_n 3, 1), (909, .iconst 3, 1), (910, .iadd, 1), (911, .iaload, 1), (912, .aload_n 0, 1), (913, .iload_n 3, 1), (914, .iconst 4, 1), (915, .iadd, 1), (916, .iaload, 1), (917, .invokevirtual 114, 3), (920, .pop, 1), (921, .aload_n 2, 1), (922, .aload_n 0, 1), (923, .iload_n 3, 1), (924, .iconst 1, 1), (925, .iadd, 1), (926, .iaload, 1), (927, .aload_n 0, 1)]
set_option maxRecDepth 100000 in
theorem tk_L_law_15 : (tb_L_law_15.all fun q => decide (decode cL_law q.1 = .ok q.2)) = true := by decide +kernel
theorem dL_law_876 : decode cL_law 876 = .ok (.invokevirtual 109, 3) := tb_d tk_L_law_15 0 (876, .invokevirtual 109, 3) rfl
theorem dL_law_879 : decode cL_law 879 = .ok (.pop, 1) := tb_d tk_L_law_15 1 (879, .pop, 1) rfl
theorem dL_law_880 : decode cL_law 880 = .ok (.goto 541, 3) := tb_d tk_L_law_15 2 (880, .goto 541, 3) rfl
theorem dL_law_883 : decode cL_law 883 = .ok (.aload_n 1, 1) := tb_d tk_L_law_15 3 (883, .aload_n 1, 1) rfl
theorem dL_law_884 : decode cL_law 884 = .ok (.invokevirtual 110, 3) := tb_d tk_L_law_15 4 (884, .invokevirtual 110, 3) rfl
theorem dL_law_887 : decode cL_law 887 = .ok (.pop, 1) := tb_d tk_L_law_15 5 (887, .pop, 1) rfl
theorem dL_law_888 : decode cL_law 888 = .ok (.aload_n 2, 1) := tb_d tk_L_law_15 6 (888, .aload_n 2, 1) rfl
theorem dL_law_889 : decode cL_law 889 = .ok (.invokevirtual 113, 3) := tb_d tk_L_law_15 7 (889, .invokevirtual 113, 3) rfl
theorem dL_law_892 : decode cL_law 892 = .ok (.pop, 1) := tb_d tk_L_law_15 8 (892, .pop, 1) rfl
theorem dL_law_893 : decode cL_law 893 = .ok (.goto 528, 3) := tb_d tk_L_law_15 9 (893, .goto 528, 3) rfl
theorem dL_law_896 : decode cL_law 896 = .ok (.aload_n 1, 1) := tb_d tk_L_law_15 10 (896, .aload_n 1, 1) rfl
theorem dL_law_897 : decode cL_law 897 = .ok (.aload_n 0, 1) := tb_d tk_L_law_15 11 (897, .aload_n 0, 1) rfl
theorem dL_law_898 : decode cL_law 898 = .ok (.iload_n 3, 1) := tb_d tk_L_law_15 12 (898, .iload_n 3, 1) rfl
theorem dL_law_899 : decode cL_law 899 = .ok (.iconst 1, 1) := tb_d tk_L_law_15 13 (899, .iconst 1, 1) rfl
theorem dL_law_900 : decode cL_law 900 = .ok (.iadd, 1) := tb_d tk_L_law_15 14 (900, .iadd, 1) rfl
theorem dL_law_901 : decode cL_law 901 = .ok (.iaload, 1) := tb_d tk_L_law_15 15 (901, .iaload, 1) rfl
theorem dL_law_902 : decode cL_law 902 = .ok (.aload_n 0, 1) := tb_d tk_L_law_15 16 (902, .aload_n 0, 1) rfl
theorem dL_law_903 : decode cL_law 903 = .ok (.iload_n 3, 1) := tb_d tk_L_law_15 17 (903, .iload_n 3, 1) rfl
theorem dL_law_904 : decode cL_law 904 = .ok (.iconst 2, 1) := tb_d tk_L_law_15 18 (904, .iconst 2, 1) rfl
theorem dL_law_905 : decode cL_law 905 = .ok (.iadd, 1) := tb_d tk_L_law_15 19 (905, .iadd, 1) rfl
theorem dL_law_906 : decode cL_law 906 = .ok (.iaload, 1) := tb_d tk_L_law_15 20 (906, .iaload, 1) rfl
theorem dL_law_907 : decode cL_law 907 = .ok (.aload_n 0, 1) := tb_d tk_L_law_15 21 (907, .aload_n 0, 1) rfl
theorem dL_law_908 : decode cL_law 908 = .ok (.iload_n 3, 1) := tb_d tk_L_law_15 22 (908, .iload_n 3, 1) rfl
theorem dL_law_909 : decode cL_law 909 = .ok (.iconst 3, 1) := tb_d tk_L_law_15 23 (909, .iconst 3, 1) rfl
theorem dL_law_910 : decode cL_law 910 = .ok (.iadd, 1) := tb_d tk_L_law_15 24 (910, .iadd, 1) rfl
theorem dL_law_911 : decode cL_law 911 = .ok (.iaload, 1) := tb_d tk_L_law_15 25 (911, .iaload, 1) rfl
theorem dL_law_912 : decode cL_law 912 = .ok (.aload_n 0, 1) := tb_d tk_L_law_15 26 (912, .aload_n 0, 1) rfl
