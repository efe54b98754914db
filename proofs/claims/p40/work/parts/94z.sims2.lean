/-! THE CALLS KEEP J2 -/
def cs2 (n : Nat) : Prop := n ∈ [0, 1, 2, 3, 4, 5, 6, 7, 8, 9, 10, 11, 12, 13, 14, 15, 16, 17, 18, 19, 20, 21, 22, 23, 25, 26, 27, 28, 29, 30, 31, 32, 33, 34, 35, 37]
theorem j2_row : jop_row J2 (cs2 0) := by
  intro vx vm a1 a2 a3 hJ
  exact j2_ofC (j1_row vx vm a1 a2 a3 hJ.1) (fun _ => by unfold cs1; decide) (ga_fr hJ.2 (f_X7_row vx a1 a2 a3) (f_X8_row vm a1 a2 a3) (by decide) (by decide) (by decide))
theorem j2_set : jop_set J2 (cs2 1) := by
  intro vx vm a1 a2 a3 hJ
  exact j2_ofC (j1_set vx vm a1 a2 a3 hJ.1) (fun _ => by unfold cs1; decide) (ga_fr hJ.2 (f_X7_set vx a1 a2 a3) (f_X8_set vm a1 a2 a3) (by decide) (by decide) (by decide))
theorem j2_copy : jop_copy J2 (cs2 2) := by
  intro vx vm a1 a2 a3 a4 a5 hJ
  exact j2_ofC (j1_copy vx vm a1 a2 a3 a4 a5 hJ.1) (fun _ => by unfold cs1; decide) (ga_fr hJ.2 (f_X7_copy vx a1 a2 a3 a4 a5) (f_X8_copy vm a1 a2 a3 a4 a5) (by decide) (by decide) (by decide))
theorem j2_drop : jop_drop J2 (cs2 3) := by
  intro vx vm a1 hJ
  exact j2_ofC (j1_drop vx vm a1 hJ.1) (fun _ => by unfold cs1; decide) (ga_fr hJ.2 (f_X7_drop vx a1) (f_X8_drop vm a1) (by decide) (by decide) (by decide))
theorem j2_feed : jop_feed J2 (cs2 4) := by
  intro vx vm a1 hJ
  exact j2_ofC (j1_feed vx vm a1 hJ.1) (fun _ => by unfold cs1; decide) (ga_fr hJ.2 (f_X7_feed vx a1) (f_X8_feed vm a1) (by decide) (by decide) (by decide))
theorem j2_gate : jop_gate J2 (cs2 5) := by
  intro vx vm  hJ
  exact j2_of (j1_gate vx vm hJ.1) (rel_gaQ ((r_gate hJ.1.1 hJ.1.2.2.2).mono (fun a b k => gaQ_gate hJ.2 k)))
theorem j2_fault : jop_fault J2 (cs2 6) := by
  intro vx vm  hJ
  exact j2_of (j1_fault vx vm  hJ.1) (rel_map hJ.2 (fun _ => a_fault hJ ))
theorem j2_nights : jop_nights J2 (cs2 7) := by
  intro vx vm a1 hJ
  exact j2_of (j1_nights vx vm a1 hJ.1) (rel_gaQ ((r_nights hJ.1.1 hJ.2.1 a1).mono (fun a b k => gaQ_act hJ.2 k)))
theorem j2_say : jop_say J2 (cs2 8) := by
  intro vx vm a1 a2 hJ
  exact j2_of (j1_say vx vm a1 a2 hJ.1) (rel_gaQ ((r_say hJ.1.1 hJ.1.2.1 hJ.2.1 a1 a2).mono (fun a b k => gaQ_act hJ.2 k)))
theorem j2_start : jop_start J2 (cs2 9) := by
  intro vx vm a1 hJ
  exact j2_of (j1_start vx vm a1 hJ.1) (rel_gaQ ((r_start hJ.1.1 hJ.2.1 a1).mono (fun a b k => gaQ_act hJ.2 k)))
theorem j2_dismiss : jop_dismiss J2 (cs2 10) := by
  intro vx vm a1 a2 hJ
  exact j2_of (j1_dismiss vx vm a1 a2 hJ.1) (rel_gaQ ((r_dismiss hJ.1.1 hJ.2.1 a1 a2).mono (fun a b k => gaQ_act hJ.2 k)))
theorem j2_undo : jop_undo J2 (cs2 11) := by
  intro vx vm  hJ
  exact j2_of (j1_undo vx vm hJ.1) (rel_gaQ ((r_undo hJ.2.1.1 hJ.2.1.2.1 hJ.2.1.2.2).mono (fun a b k => gaQ_undo hJ.2 k)))
theorem j2_letter : jop_letter J2 (cs2 12) := by
  intro vx vm a1 a2 hJ
  exact j2_of (j1_letter vx vm a1 a2 hJ.1) (rel_map hJ.2 (fun _ => a_letter hJ a1 a2))
theorem j2_like : jop_like J2 (cs2 13) := by
  intro vx vm a1 a2 a3 hJ
  exact j2_of (j1_like vx vm a1 a2 a3 hJ.1) (rel_map hJ.2 (fun _ => a_like hJ a1 a2 a3))
theorem j2_guard : jop_guard J2 (cs2 14) := by
  intro vx vm a1 a2 hJ
  exact j2_of (j1_guard vx vm a1 a2 hJ.1) (rel_map hJ.2 (fun _ => a_guard hJ a1 a2))
theorem j2_tried : jop_tried J2 (cs2 15) := by
  intro vx vm a1 a2 hJ
  exact j2_of (j1_tried vx vm a1 a2 hJ.1) (rel_map hJ.2 (fun _ => a_tried hJ a1 a2))
theorem j2_secret : jop_secret J2 (cs2 16) := by
  intro vx vm a1 hJ
  exact j2_of (j1_secret vx vm a1 hJ.1) (rel_map hJ.2 (fun _ => a_secret hJ a1))
theorem j2_taken : jop_taken J2 (cs2 17) := by
  intro vx vm a1 a2 a3 hJ
  exact j2_of (j1_taken vx vm a1 a2 a3 hJ.1) (rel_map hJ.2 (fun _ => a_taken hJ a1 a2 a3))
theorem j2_safe : jop_safe J2 (cs2 18) := by
  intro vx vm a1 a2 hJ
  exact j2_of (j1_safe vx vm a1 a2 hJ.1) (rel_map hJ.2 (fun _ => a_safe hJ a1 a2))
theorem j2_open : jop_open J2 (cs2 19) := by
  intro vx vm a1 a2 hJ
  exact j2_of (j1_open vx vm a1 a2 hJ.1) (rel_map hJ.2 (fun _ => a_open hJ a1 a2))
theorem j2_next : jop_next J2 (cs2 20) := by
  intro vx vm a1 hJ
  exact j2_of (j1_next vx vm a1 hJ.1) (rel_map hJ.2 (fun _ => a_next hJ a1))
theorem j2_agree : jop_agree J2 (cs2 21) := by
  intro vx vm  hJ
  exact j2_of (j1_agree vx vm  hJ.1) (rel_map hJ.2 (fun _ => a_agree hJ ))
theorem j2_man : jop_man J2 (cs2 22) := by
  intro vx vm a1 hJ
  exact j2_of (j1_man vx vm a1 hJ.1) (rel_map hJ.2 (fun _ => a_man hJ a1))
theorem j2_fewest : jop_fewest J2 (cs2 23) := by
  intro vx vm  hJ
  exact j2_of (j1_fewest vx vm hJ.1) (fun a b e1 e2 => ⟨(ga_fr hJ.2 (f_X7_fewest vx) (f_X8_fewest vm) (by decide) (by decide) (by decide)) a b e1 e2, fun _ => (r_fewest hJ) a b e1 e2⟩)
theorem j2_march : jop_march J2 (cs2 24) := by
  intro vx vm a1 a2 a3 a4 hJ
  exact j2_of (j1_march vx vm a1 a2 a3 a4 hJ.1) ((ga_fr hJ.2 (f_X7_march vx a1 a2 a3 a4) (f_X8_march vm a1 a2 a3 a4) (by decide) (by decide) (by decide)).mono (fun a b k => ⟨k, fun q => absurd q (by unfold cs2; decide)⟩))
theorem j2_cheap : jop_cheap J2 (cs2 25) := by
  intro vx vm a1 a2 a3 hJ
  exact j2_of (j1_cheap vx vm a1 a2 a3 hJ.1) (rel_map hJ.2 (fun _ => a_cheap hJ a1 a2 a3))
theorem j2_near : jop_near J2 (cs2 26) := by
  intro vx vm a1 a2 hJ
  exact j2_of (j1_near vx vm a1 a2 hJ.1) (rel_map hJ.2 (fun _ => a_near hJ a1 a2))
theorem j2_rules : jop_rules J2 (cs2 27) := by
  intro vx vm a1 a2 a3 a4 hJ
  exact j2_of (j1_rules vx vm a1 a2 a3 a4 hJ.1) (fun a b e1 e2 => ⟨(ga_fr hJ.2 (f_X7_rules vx a1 a2 a3 a4) (f_X8_rules vm a1 a2 a3 a4) (by decide) (by decide) (by decide)) a b e1 e2, fun _ => ((r_rules hJ.1.1 hJ.1.2.1 hJ.1.2.2.1 hJ.2.1 a1 a2 a3 a4) a b e1 e2).1⟩)
theorem j2_fits : jop_fits J2 (cs2 28) := by
  intro vx vm a1 a2 a3 a4 hJ
  exact j2_of (j1_fits vx vm a1 a2 a3 a4 hJ.1) (fun a b e1 e2 => ⟨(ga_fr hJ.2 (f_X7_fits vx a1 a2 a3 a4) (f_X8_fits vm a1 a2 a3 a4) (by decide) (by decide) (by decide)) a b e1 e2, fun _ => ((r_fits hJ.1.1 hJ.1.2.1 hJ.1.2.2.1 hJ.2.1 a1 a2 a3 a4) a b e1 e2).1⟩)
theorem j2_sure : jop_sure J2 (cs2 29) := by
  intro vx vm a1 a2 a3 a4 hJ
  exact j2_of (j1_sure vx vm a1 a2 a3 a4 hJ.1) (rel_map hJ.2 (fun _ => a_sure hJ a1 a2 a3 a4))
theorem j2_drawn : jop_drawn J2 (cs2 30) := by
  intro vx vm a1 a2 a3 hJ
  exact j2_of (j1_drawn vx vm a1 a2 a3 hJ.1) (rel_map hJ.2 (fun _ => a_drawn hJ a1 a2 a3))
theorem j2_image : jop_image J2 (cs2 31) := by
  intro vx vm a1 hJ
  exact j2_of (j1_image vx vm a1 hJ.1) (rel_gaQ (r_image hJ.1.1 hJ.2 a1))
theorem j2_restore : jop_restore J2 (cs2 32) := by
  intro vx vm a1 hJ
  exact j2_of (j1_restore vx vm a1 hJ.1) (rel_gaQ (r_restore hJ.2 a1))
theorem j2_kind : jop_kind J2 (cs2 33) := by
  intro vx vm a1 hJ
  exact j2_of (j1_kind vx vm a1 hJ.1) (rel_map hJ.2 (fun _ => a_kind hJ a1))
theorem j2_as : jop_as J2 (cs2 34) := by
  intro vx vm a1 a2 hJ
  exact j2_of (j1_as vx vm a1 a2 hJ.1) (fun a b e1 e2 => ⟨(ga_fr hJ.2 (f_X7_as vx a1 a2) (f_X8_as vm a1 a2) (by decide) (by decide) (by decide)) a b e1 e2, fun _ => ((r_as hJ.1.1 hJ.2.1 a1 a2) a b e1 e2).1⟩)
theorem j2_ask : jop_ask J2 (cs2 35) := by
  intro vx vm a1 a2 hJ
  exact j2_of (j1_ask vx vm a1 a2 hJ.1) (fun a b e1 e2 => ⟨(ga_fr hJ.2 (f_X7_ask vx a1 a2) (f_X8_ask vm a1 a2) (by decide) (by decide) (by decide)) a b e1 e2, fun _ => ((r_ask hJ.1.1 hJ.2.1 a1 a2) a b e1 e2).1⟩)
theorem j2_trace : jop_trace J2 (cs2 36) := by
  intro vx vm a1 hJ
  exact j2_of (j1_trace vx vm a1 hJ.1) (rel_map hJ.2 (fun q => absurd q (by unfold cs2; decide)))
theorem j2_count : jop_count J2 (cs2 37) := by
  intro vx vm a1 hJ
  exact j2_of (j1_count vx vm a1 hJ.1) (rel_map hJ.2 (fun _ => a_count hJ a1))
theorem j2_status : jop_status J2 (cs2 38) := by
  intro vx vm  hJ
  exact j2_of (j1_status vx vm  hJ.1) (rel_map hJ.2 (fun q => absurd q (by unfold cs2; decide)))
theorem sims2 : sims J2 cs2 := ⟨j2_row, j2_set, j2_copy, j2_drop, j2_feed, j2_gate, j2_fault, j2_nights, j2_say, j2_start, j2_dismiss, j2_undo, j2_letter, j2_like, j2_guard, j2_tried, j2_secret, j2_taken, j2_safe, j2_open, j2_next, j2_agree, j2_man, j2_fewest, j2_march, j2_cheap, j2_near, j2_rules, j2_fits, j2_sure, j2_drawn, j2_image, j2_restore, j2_kind, j2_as, j2_ask, j2_trace, j2_count, j2_status⟩
