/-! THE CALLS KEEP J3: status and trace too -/
theorem TRR.fr {S T : List Nat} {vx vm wx wm : Mm} (h : TRR vx vm) (hx : FR S vx wx) (hm : FR T vm wm) (h1 : S.contains 21 = false ∧ S.contains 22 = false) (h2 : T.contains 222 = false ∧ T.contains 43 = false) : TRR wx wm := by
  unfold TRR
  rw [hx.at (t := 21) (by decide) h1.1 0 1, hm 30 0 22 h2.1]
  exact ⟨h.1, h.2.1, fun k hk => by rw [hx.at (t := 22) (by decide) h1.2 0 k, hm.at (t := 43) (by decide) h2.2 0 k]; exact h.2.2 k hk⟩
theorem RS.fr {S T : List Nat} {vx vm wx wm : Mm} (h : RS vx vm) (hx : FR S vx wx) (hm : FR T vm wm) (h1 : S.contains 108 = false) (h2 : T.contains 204 = false) : RS wx wm := by
  unfold RS
  rw [hx 0 0 8 h1, hm 30 0 4 h2]; exact h
def J3 (vx vm : Mm) : Prop := J2 vx vm ∧ RS vx vm ∧ TRR vx vm
def cs3 (n : Nat) : Prop := cs2 n ∨ n = 36 ∨ n = 38
theorem J3_0 (fl : Nat → Int32) (hfl : ∀ j, j < 8 → fl j = (-1000000)) : J3 vX0 (vM0 fl) := by
  refine ⟨J2_0 fl hfl, rfl, rfl, ?_, fun k hk => ?_⟩
  · show 0 ≤ (0 : Int32).toInt
    decide
  · have hk : (k : Int) < (0 : Int32).toInt := hk
    rw [show (0 : Int32).toInt = 0 by decide] at hk
    omega
theorem j3_of {oX oM : Option (Int32 × Mm)} {k : Nat} (h1 : ∃ (r1 : Int32) (vx1 : Mm) (r2 : Int32) (vm1 : Mm), oX = some (r1, vx1) ∧ oM = some (r2, vm1) ∧ J2 vx1 vm1 ∧ (cs2 k → r1 = r2)) (hs : rel oX oM (fun a b => RS a.2 b.2)) (ht : rel oX oM (fun a b => TRR a.2 b.2)) (hk : ¬ (k = 36 ∨ k = 38)) : ∃ (r1 : Int32) (vx1 : Mm) (r2 : Int32) (vm1 : Mm), oX = some (r1, vx1) ∧ oM = some (r2, vm1) ∧ J3 vx1 vm1 ∧ (cs3 k → r1 = r2) := by
  obtain ⟨r1, vx1, r2, vm1, e1, e2, hj, h2⟩ := h1
  exact ⟨r1, vx1, r2, vm1, e1, e2, ⟨hj, hs _ _ e1 e2, ht _ _ e1 e2⟩, fun q => h2 (q.resolve_right hk)⟩
theorem j3_ofA {oX oM : Option (Int32 × Mm)} {C1 C : Prop} (h1 : ∃ (r1 : Int32) (vx1 : Mm) (r2 : Int32) (vm1 : Mm), oX = some (r1, vx1) ∧ oM = some (r2, vm1) ∧ J2 vx1 vm1 ∧ (C1 → r1 = r2)) (hs : rel oX oM (fun a b => RS a.2 b.2)) (ht : rel oX oM (fun a b => TRR a.2 b.2)) (ha : rel oX oM (fun a b => a.1 = b.1)) : ∃ (r1 : Int32) (vx1 : Mm) (r2 : Int32) (vm1 : Mm), oX = some (r1, vx1) ∧ oM = some (r2, vm1) ∧ J3 vx1 vm1 ∧ (C → r1 = r2) := by
  obtain ⟨r1, vx1, r2, vm1, e1, e2, hj, -⟩ := h1
  exact ⟨r1, vx1, r2, vm1, e1, e2, ⟨hj, hs _ _ e1 e2, ht _ _ e1 e2⟩, fun _ => ha _ _ e1 e2⟩
theorem rel_mapP {P : Mm → Mm → Prop} {vx vm : Mm} {o1 o2 : Option Int32} (h : P vx vm) : rel (o1.map (fun r => (r, vx))) (o2.map (fun r => (r, vm))) (fun a b => P a.2 b.2) := by
  intro a b e1 e2
  cases q1 : o1 with
  | none => rw [q1] at e1; cases e1
  | some x =>
    cases q2 : o2 with
    | none => rw [q2] at e2; cases e2
    | some y =>
      rw [q1] at e1
      rw [q2] at e2
      cases e1
      cases e2
      exact h
theorem rel_mapA {vx vm : Mm} {o1 o2 : Option Int32} (h : rel o1 o2 (fun a b => a = b)) : rel (o1.map (fun r => (r, vx))) (o2.map (fun r => (r, vm))) (fun a b => a.1 = b.1) := by
  intro a b e1 e2
  cases q1 : o1 with
  | none => rw [q1] at e1; cases e1
  | some x =>
    cases q2 : o2 with
    | none => rw [q2] at e2; cases e2
    | some y =>
      rw [q1] at e1
      rw [q2] at e2
      cases e1
      cases e2
      exact h x y q1 q2
theorem rs_fr {S T : List Nat} {vx vm : Mm} {oX oM : Option (Int32 × Mm)} (h : RS vx vm) (fx : pk oX (fun z => FR S vx z.2)) (fm : pk oM (fun z => FR T vm z.2)) (h1 : S.contains 108 = false) (h2 : T.contains 204 = false) : rel oX oM (fun a b => RS a.2 b.2) :=
  fun a b e1 e2 => h.fr (fx a e1) (fm b e2) h1 h2
theorem tr_fr {S T : List Nat} {vx vm : Mm} {oX oM : Option (Int32 × Mm)} (h : TRR vx vm) (fx : pk oX (fun z => FR S vx z.2)) (fm : pk oM (fun z => FR T vm z.2)) (h1 : S.contains 21 = false ∧ S.contains 22 = false) (h2 : T.contains 222 = false ∧ T.contains 43 = false) : rel oX oM (fun a b => TRR a.2 b.2) :=
  fun a b e1 e2 => h.fr (fx a e1) (fm b e2) h1 h2
theorem a_status {vx vm : Mm} (h : RS vx vm) : rel (g_X7_status vx) (g_X8_status vm) (fun x y => x = y) := rel_some h
theorem a_trace {vx vm : Mm} (hX : PW rgX vx) (h : TRR vx vm) (a1 : Int32) : rel (g_X7_trace vx a1) (g_X8_trace vm a1) (fun x y => x = y) := by
  have e0 : (0 : Int32).toInt = 0 := by decide
  have e1 : (1 : Int32).toInt = 1 := by decide
  have hb : (0 : Int) ≤ (vx 21 0 1).toInt ∧ (vx 21 0 1).toInt ≤ (16 : Int) := hX 21 0 1
  have s := sp_subx (vx 21 0 1) 1 (by omega)
  have ca := tcn a1
  unfold g_X7_trace g_X8_trace
  rw [rng4, b_in, ← h.1]
  refine rel_ite (by rw [s, e0, e1]; omega) (fun c => ?_) (fun _ => rel_some rfl)
  exact rel_grdL _ (fun _ => rel_grdR _ (fun _ => rel_some (h.2.2 _ (by omega))))
theorem j3_row : jop_row J3 (cs3 0) := by
  intro vx vm a1 a2 a3 hJ
  exact j3_of (j2_row vx vm a1 a2 a3 hJ.1) (fun a b e1 e2 => ((r_row hJ.1.1.2.2.1 a1 a2 a3) a b e1 e2).2.2 hJ.2.1) (tr_fr hJ.2.2 (f_X7_row vx a1 a2 a3) (f_X8_row vm a1 a2 a3) (by decide) (by decide)) (by decide)
theorem j3_set : jop_set J3 (cs3 1) := by
  intro vx vm a1 a2 a3 hJ
  exact j3_of (j2_set vx vm a1 a2 a3 hJ.1) (fun a b e1 e2 => ((r_set hJ.1.1.1 hJ.1.1.2.1 hJ.1.1.2.2.1 a1 a2 a3) a b e1 e2).2.2 hJ.2.1) (tr_fr hJ.2.2 (f_X7_set vx a1 a2 a3) (f_X8_set vm a1 a2 a3) (by decide) (by decide)) (by decide)
theorem j3_copy : jop_copy J3 (cs3 2) := by
  intro vx vm a1 a2 a3 a4 a5 hJ
  exact j3_of (j2_copy vx vm a1 a2 a3 a4 a5 hJ.1) (fun a b e1 e2 => ((r_copy hJ.1.1.1 hJ.1.1.2.1 hJ.1.1.2.2.1 a1 a2 a3 a4 a5) a b e1 e2).2.2 hJ.2.1) (tr_fr hJ.2.2 (f_X7_copy vx a1 a2 a3 a4 a5) (f_X8_copy vm a1 a2 a3 a4 a5) (by decide) (by decide)) (by decide)
theorem j3_drop : jop_drop J3 (cs3 3) := by
  intro vx vm a1 hJ
  exact j3_of (j2_drop vx vm a1 hJ.1) (fun a b e1 e2 => ((r_drop hJ.1.1.2.2.1 a1) a b e1 e2).2.2 hJ.2.1) (tr_fr hJ.2.2 (f_X7_drop vx a1) (f_X8_drop vm a1) (by decide) (by decide)) (by decide)
theorem j3_feed : jop_feed J3 (cs3 4) := by
  intro vx vm a1 hJ
  exact j3_of (j2_feed vx vm a1 hJ.1) (rs_fr hJ.2.1 (f_X7_feed vx a1) (f_X8_feed vm a1) (by decide) (by decide)) (tr_fr hJ.2.2 (f_X7_feed vx a1) (f_X8_feed vm a1) (by decide) (by decide)) (by decide)
theorem j3_gate : jop_gate J3 (cs3 5) := by
  intro vx vm  hJ
  exact j3_of (j2_gate vx vm  hJ.1) (rs_fr hJ.2.1 (f_X7_gate vx ) (f_X8_gate vm ) (by decide) (by decide)) (tr_fr hJ.2.2 (f_X7_gate vx ) (f_X8_gate vm ) (by decide) (by decide)) (by decide)
theorem j3_fault : jop_fault J3 (cs3 6) := by
  intro vx vm  hJ
  exact j3_of (j2_fault vx vm  hJ.1) (rel_mapP hJ.2.1) (rel_mapP hJ.2.2) (by decide)
theorem j3_nights : jop_nights J3 (cs3 7) := by
  intro vx vm a1 hJ
  exact j3_of (j2_nights vx vm a1 hJ.1) (rs_fr hJ.2.1 (f_X7_nights vx a1) (f_X8_nights vm a1) (by decide) (by decide)) (tr_fr hJ.2.2 (f_X7_nights vx a1) (f_X8_nights vm a1) (by decide) (by decide)) (by decide)
theorem j3_say : jop_say J3 (cs3 8) := by
  intro vx vm a1 a2 hJ
  exact j3_of (j2_say vx vm a1 a2 hJ.1) (rs_fr hJ.2.1 (f_X7_say vx a1 a2) (f_X8_say vm a1 a2) (by decide) (by decide)) (tr_fr hJ.2.2 (f_X7_say vx a1 a2) (f_X8_say vm a1 a2) (by decide) (by decide)) (by decide)
theorem j3_start : jop_start J3 (cs3 9) := by
  intro vx vm a1 hJ
  exact j3_of (j2_start vx vm a1 hJ.1) (rs_fr hJ.2.1 (f_X7_start vx a1) (f_X8_start vm a1) (by decide) (by decide)) (tr_fr hJ.2.2 (f_X7_start vx a1) (f_X8_start vm a1) (by decide) (by decide)) (by decide)
theorem j3_dismiss : jop_dismiss J3 (cs3 10) := by
  intro vx vm a1 a2 hJ
  exact j3_of (j2_dismiss vx vm a1 a2 hJ.1) (rs_fr hJ.2.1 (f_X7_dismiss vx a1 a2) (f_X8_dismiss vm a1 a2) (by decide) (by decide)) (tr_fr hJ.2.2 (f_X7_dismiss vx a1 a2) (f_X8_dismiss vm a1 a2) (by decide) (by decide)) (by decide)
theorem j3_undo : jop_undo J3 (cs3 11) := by
  intro vx vm  hJ
  exact j3_of (j2_undo vx vm  hJ.1) (rs_fr hJ.2.1 (f_X7_undo vx ) (f_X8_undo vm ) (by decide) (by decide)) (tr_fr hJ.2.2 (f_X7_undo vx ) (f_X8_undo vm ) (by decide) (by decide)) (by decide)
theorem j3_letter : jop_letter J3 (cs3 12) := by
  intro vx vm a1 a2 hJ
  exact j3_of (j2_letter vx vm a1 a2 hJ.1) (rel_mapP hJ.2.1) (rel_mapP hJ.2.2) (by decide)
theorem j3_like : jop_like J3 (cs3 13) := by
  intro vx vm a1 a2 a3 hJ
  exact j3_of (j2_like vx vm a1 a2 a3 hJ.1) (rel_mapP hJ.2.1) (rel_mapP hJ.2.2) (by decide)
theorem j3_guard : jop_guard J3 (cs3 14) := by
  intro vx vm a1 a2 hJ
  exact j3_of (j2_guard vx vm a1 a2 hJ.1) (rel_mapP hJ.2.1) (rel_mapP hJ.2.2) (by decide)
theorem j3_tried : jop_tried J3 (cs3 15) := by
  intro vx vm a1 a2 hJ
  exact j3_of (j2_tried vx vm a1 a2 hJ.1) (rel_mapP hJ.2.1) (rel_mapP hJ.2.2) (by decide)
theorem j3_secret : jop_secret J3 (cs3 16) := by
  intro vx vm a1 hJ
  exact j3_of (j2_secret vx vm a1 hJ.1) (rel_mapP hJ.2.1) (rel_mapP hJ.2.2) (by decide)
theorem j3_taken : jop_taken J3 (cs3 17) := by
  intro vx vm a1 a2 a3 hJ
  exact j3_of (j2_taken vx vm a1 a2 a3 hJ.1) (rel_mapP hJ.2.1) (rel_mapP hJ.2.2) (by decide)
theorem j3_safe : jop_safe J3 (cs3 18) := by
  intro vx vm a1 a2 hJ
  exact j3_of (j2_safe vx vm a1 a2 hJ.1) (rel_mapP hJ.2.1) (rel_mapP hJ.2.2) (by decide)
theorem j3_open : jop_open J3 (cs3 19) := by
  intro vx vm a1 a2 hJ
  exact j3_of (j2_open vx vm a1 a2 hJ.1) (rel_mapP hJ.2.1) (rel_mapP hJ.2.2) (by decide)
theorem j3_next : jop_next J3 (cs3 20) := by
  intro vx vm a1 hJ
  exact j3_of (j2_next vx vm a1 hJ.1) (rel_mapP hJ.2.1) (rel_mapP hJ.2.2) (by decide)
theorem j3_agree : jop_agree J3 (cs3 21) := by
  intro vx vm  hJ
  exact j3_of (j2_agree vx vm  hJ.1) (rel_mapP hJ.2.1) (rel_mapP hJ.2.2) (by decide)
theorem j3_man : jop_man J3 (cs3 22) := by
  intro vx vm a1 hJ
  exact j3_of (j2_man vx vm a1 hJ.1) (rel_mapP hJ.2.1) (rel_mapP hJ.2.2) (by decide)
theorem j3_fewest : jop_fewest J3 (cs3 23) := by
  intro vx vm  hJ
  exact j3_of (j2_fewest vx vm  hJ.1) (rs_fr hJ.2.1 (f_X7_fewest vx ) (f_X8_fewest vm ) (by decide) (by decide)) (tr_fr hJ.2.2 (f_X7_fewest vx ) (f_X8_fewest vm ) (by decide) (by decide)) (by decide)
theorem j3_march : jop_march J3 (cs3 24) := by
  intro vx vm a1 a2 a3 a4 hJ
  exact j3_of (j2_march vx vm a1 a2 a3 a4 hJ.1) (fun a b e1 e2 => ((r_marchS hJ.1.1.1 hJ.1.1.2.1 hJ.1.1.2.2.1 hJ.1.2.1 a1 a2 a3 a4) a b e1 e2) hJ.2.1) (tr_fr hJ.2.2 (f_X7_march vx a1 a2 a3 a4) (f_X8_march vm a1 a2 a3 a4) (by decide) (by decide)) (by decide)
theorem j3_cheap : jop_cheap J3 (cs3 25) := by
  intro vx vm a1 a2 a3 hJ
  exact j3_of (j2_cheap vx vm a1 a2 a3 hJ.1) (rel_mapP hJ.2.1) (rel_mapP hJ.2.2) (by decide)
theorem j3_near : jop_near J3 (cs3 26) := by
  intro vx vm a1 a2 hJ
  exact j3_of (j2_near vx vm a1 a2 hJ.1) (rel_mapP hJ.2.1) (rel_mapP hJ.2.2) (by decide)
theorem j3_rules : jop_rules J3 (cs3 27) := by
  intro vx vm a1 a2 a3 a4 hJ
  exact j3_of (j2_rules vx vm a1 a2 a3 a4 hJ.1) (fun a b e1 e2 => ((r_rules hJ.1.1.1 hJ.1.1.2.1 hJ.1.1.2.2.1 hJ.1.2.1 a1 a2 a3 a4) a b e1 e2).2 hJ.2.1) (tr_fr hJ.2.2 (f_X7_rules vx a1 a2 a3 a4) (f_X8_rules vm a1 a2 a3 a4) (by decide) (by decide)) (by decide)
theorem j3_fits : jop_fits J3 (cs3 28) := by
  intro vx vm a1 a2 a3 a4 hJ
  exact j3_of (j2_fits vx vm a1 a2 a3 a4 hJ.1) (fun a b e1 e2 => ((r_fits hJ.1.1.1 hJ.1.1.2.1 hJ.1.1.2.2.1 hJ.1.2.1 a1 a2 a3 a4) a b e1 e2).2 hJ.2.1) (tr_fr hJ.2.2 (f_X7_fits vx a1 a2 a3 a4) (f_X8_fits vm a1 a2 a3 a4) (by decide) (by decide)) (by decide)
theorem j3_sure : jop_sure J3 (cs3 29) := by
  intro vx vm a1 a2 a3 a4 hJ
  exact j3_of (j2_sure vx vm a1 a2 a3 a4 hJ.1) (rel_mapP hJ.2.1) (rel_mapP hJ.2.2) (by decide)
theorem j3_drawn : jop_drawn J3 (cs3 30) := by
  intro vx vm a1 a2 a3 hJ
  exact j3_of (j2_drawn vx vm a1 a2 a3 hJ.1) (rel_mapP hJ.2.1) (rel_mapP hJ.2.2) (by decide)
theorem j3_image : jop_image J3 (cs3 31) := by
  intro vx vm a1 hJ
  exact j3_of (j2_image vx vm a1 hJ.1) (rs_fr hJ.2.1 (f_X7_image vx a1) (f_X8_image vm a1) (by decide) (by decide)) (tr_fr hJ.2.2 (f_X7_image vx a1) (f_X8_image vm a1) (by decide) (by decide)) (by decide)
theorem j3_restore : jop_restore J3 (cs3 32) := by
  intro vx vm a1 hJ
  exact j3_of (j2_restore vx vm a1 hJ.1) (rs_fr hJ.2.1 (f_X7_restore vx a1) (f_X8_restore vm a1) (by decide) (by decide)) (tr_fr hJ.2.2 (f_X7_restore vx a1) (f_X8_restore vm a1) (by decide) (by decide)) (by decide)
theorem j3_kind : jop_kind J3 (cs3 33) := by
  intro vx vm a1 hJ
  exact j3_of (j2_kind vx vm a1 hJ.1) (rel_mapP hJ.2.1) (rel_mapP hJ.2.2) (by decide)
theorem j3_as : jop_as J3 (cs3 34) := by
  intro vx vm a1 a2 hJ
  exact j3_of (j2_as vx vm a1 a2 hJ.1) (fun a b e1 e2 => ((r_as hJ.1.1.1 hJ.1.2.1 a1 a2) a b e1 e2).2 hJ.2.1) (tr_fr hJ.2.2 (f_X7_as vx a1 a2) (f_X8_as vm a1 a2) (by decide) (by decide)) (by decide)
theorem j3_ask : jop_ask J3 (cs3 35) := by
  intro vx vm a1 a2 hJ
  exact j3_of (j2_ask vx vm a1 a2 hJ.1) (rs_fr hJ.2.1 (f_X7_ask vx a1 a2) (f_X8_ask vm a1 a2) (by decide) (by decide)) (fun a b e1 e2 => ((r_ask hJ.1.1.1 hJ.1.2.1 a1 a2) a b e1 e2).2 hJ.2.2) (by decide)
theorem j3_trace : jop_trace J3 (cs3 36) := by
  intro vx vm a1 hJ
  exact j3_ofA (j2_trace vx vm a1 hJ.1) (rel_mapP hJ.2.1) (rel_mapP hJ.2.2) (rel_mapA (a_trace hJ.1.1.1 hJ.2.2 a1))
theorem j3_count : jop_count J3 (cs3 37) := by
  intro vx vm a1 hJ
  exact j3_of (j2_count vx vm a1 hJ.1) (rel_mapP hJ.2.1) (rel_mapP hJ.2.2) (by decide)
theorem j3_status : jop_status J3 (cs3 38) := by
  intro vx vm  hJ
  exact j3_ofA (j2_status vx vm  hJ.1) (rel_mapP hJ.2.1) (rel_mapP hJ.2.2) (rel_mapA (a_status hJ.2.1))
theorem sims3 : sims J3 cs3 := ⟨j3_row, j3_set, j3_copy, j3_drop, j3_feed, j3_gate, j3_fault, j3_nights, j3_say, j3_start, j3_dismiss, j3_undo, j3_letter, j3_like, j3_guard, j3_tried, j3_secret, j3_taken, j3_safe, j3_open, j3_next, j3_agree, j3_man, j3_fewest, j3_march, j3_cheap, j3_near, j3_rules, j3_fits, j3_sure, j3_drawn, j3_image, j3_restore, j3_kind, j3_as, j3_ask, j3_trace, j3_count, j3_status⟩
