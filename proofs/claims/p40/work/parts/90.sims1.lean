/-! THE CALLS KEEP ranges, rows and tape -/
def J1 (vx vm : Mm) : Prop := PW rgX vx ∧ IM vm ∧ RR vx vm ∧ RT vx vm
theorem jop_of {oX oM : Option (Int32 × Mm)} {C : Prop} (hX : ok oX (fun z => PW rgX z.2)) (hM : ok oM (fun z => IM z.2)) (hr : rel oX oM (fun a b => RR a.2 b.2 ∧ RT a.2 b.2 ∧ (C → a.1 = b.1))) : ∃ (r1 : Int32) (vx1 : Mm) (r2 : Int32) (vm1 : Mm), oX = some (r1, vx1) ∧ oM = some (r2, vm1) ∧ J1 vx1 vm1 ∧ (C → r1 = r2) := by
  obtain ⟨⟨r1, vx1⟩, e1, p1⟩ := hX
  obtain ⟨⟨r2, vm1⟩, e2, p2⟩ := hM
  obtain ⟨q1, q2, q3⟩ := hr _ _ e1 e2
  exact ⟨r1, vx1, r2, vm1, e1, e2, ⟨p1, p2, q1, q2⟩, q3⟩
theorem rel_fr {S T : List Nat} {C : Prop} {vx vm : Mm} {oX oM : Option (Int32 × Mm)} (h : RR vx vm) (ht : RT vx vm) (fx : pk oX (fun z => FR S vx z.2)) (fm : pk oM (fun z => FR T vm z.2)) (h1 : S.contains 2 = false ∧ S.contains 3 = false) (h2 : T.contains 31 = false ∧ T.contains 32 = false ∧ T.contains 33 = false) (h3 : S.contains 302 = false ∧ S.contains 5 = false) (h4 : T.contains 206 = false ∧ T.contains 35 = false) (hC : ¬ C) : rel oX oM (fun a b => RR a.2 b.2 ∧ RT a.2 b.2 ∧ (C → a.1 = b.1)) :=
  fun a b e1 e2 => ⟨h.fr (fx a e1) (fm b e2) h1 h2, ht.fr (fx a e1) (fm b e2) h3 h4, fun q => absurd q hC⟩
theorem ok_map {o : Option Int32} {v : Mm} {P : Int32 → Prop} {Q : Mm → Prop} (h : ok o P) (hq : Q v) : ok (o.map (fun r => (r, v))) (fun z => Q z.2) := by
  obtain ⟨a, e, -⟩ := h
  rw [e]
  exact ⟨(a, v), rfl, hq⟩
theorem pk_map {o : Option Int32} {v : Mm} : pk (o.map (fun r => (r, v))) (fun z => FR [] v z.2) := by
  intro z e
  cases o with
  | none => cases e
  | some a => cases e; exact FR.refl _ v
theorem rel_row {S T : List Nat} {C : Prop} {vx vm : Mm} {oX oM : Option (Int32 × Mm)} (h : rel oX oM (relRow vx vm)) (ht : RT vx vm) (fx : pk oX (fun z => FR S vx z.2)) (fm : pk oM (fun z => FR T vm z.2)) (h3 : S.contains 302 = false ∧ S.contains 5 = false) (h4 : T.contains 206 = false ∧ T.contains 35 = false) : rel oX oM (fun a b => RR a.2 b.2 ∧ RT a.2 b.2 ∧ (C → a.1 = b.1)) :=
  fun a b e1 e2 => ⟨(h a b e1 e2).1, ht.fr (fx a e1) (fm b e2) h3 h4, fun _ => (h a b e1 e2).2.1⟩
theorem rel_feed {S T : List Nat} {C : Prop} {vx vm : Mm} {oX oM : Option (Int32 × Mm)} (h : RR vx vm) (ht : rel oX oM (fun a b => RT a.2 b.2 ∧ a.1 = b.1)) (fx : pk oX (fun z => FR S vx z.2)) (fm : pk oM (fun z => FR T vm z.2)) (h1 : S.contains 2 = false ∧ S.contains 3 = false) (h2 : T.contains 31 = false ∧ T.contains 32 = false ∧ T.contains 33 = false) : rel oX oM (fun a b => RR a.2 b.2 ∧ RT a.2 b.2 ∧ (C → a.1 = b.1)) :=
  fun a b e1 e2 => ⟨h.fr (fx a e1) (fm b e2) h1 h2, (ht a b e1 e2).1, fun _ => (ht a b e1 e2).2⟩
theorem J1_0 (fl : Nat → Int32) (hfl : ∀ j, j < 8 → fl j = (-1000000)) : J1 vX0 (vM0 fl) :=
  ⟨PW_X0, IM_0 fl, ⟨fun r hr => Or.inl ⟨rfl, hfl r hr⟩, fun r hr => rfl, fun r k hr hk => rfl⟩, rfl, fun k => rfl⟩
def cs1 (n : Nat) : Prop := n ≤ 4
theorem j1_row : jop_row J1 (cs1 0) := by
  intro vx vm a1 a2 a3 hJ
  exact jop_of (k_X7_row vx hJ.1 a1 a2 a3) (k_X8_row vm hJ.2.1 a1 a2 a3) (rel_row (r_row hJ.2.2.1 a1 a2 a3) hJ.2.2.2 (f_X7_row vx a1 a2 a3) (f_X8_row vm a1 a2 a3) (by decide) (by decide))
theorem j1_set : jop_set J1 (cs1 1) := by
  intro vx vm a1 a2 a3 hJ
  exact jop_of (k_X7_set vx hJ.1 a1 a2 a3) (k_X8_set vm hJ.2.1 a1 a2 a3) (rel_row (r_set hJ.1 hJ.2.1 hJ.2.2.1 a1 a2 a3) hJ.2.2.2 (f_X7_set vx a1 a2 a3) (f_X8_set vm a1 a2 a3) (by decide) (by decide))
theorem j1_copy : jop_copy J1 (cs1 2) := by
  intro vx vm a1 a2 a3 a4 a5 hJ
  exact jop_of (k_X7_copy vx hJ.1 a1 a2 a3 a4 a5) (k_X8_copy vm hJ.2.1 a1 a2 a3 a4 a5) (rel_row (r_copy hJ.1 hJ.2.1 hJ.2.2.1 a1 a2 a3 a4 a5) hJ.2.2.2 (f_X7_copy vx a1 a2 a3 a4 a5) (f_X8_copy vm a1 a2 a3 a4 a5) (by decide) (by decide))
theorem j1_drop : jop_drop J1 (cs1 3) := by
  intro vx vm a1 hJ
  exact jop_of (k_X7_drop vx hJ.1 a1) (k_X8_drop vm hJ.2.1 a1) (rel_row (r_drop hJ.2.2.1 a1) hJ.2.2.2 (f_X7_drop vx a1) (f_X8_drop vm a1) (by decide) (by decide))
theorem j1_feed : jop_feed J1 (cs1 4) := by
  intro vx vm a1 hJ
  exact jop_of (k_X7_feed vx hJ.1 a1) (k_X8_feed vm hJ.2.1 a1) (rel_feed hJ.2.2.1 (r_feed hJ.1 hJ.2.2.2 a1) (f_X7_feed vx a1) (f_X8_feed vm a1) (by decide) (by decide))
theorem j1_gate : jop_gate J1 (cs1 5) := by
  intro vx vm  hJ
  exact jop_of (k_X7_gate vx hJ.1 ) (k_X8_gate vm hJ.2.1 ) (fun z1 z2 e1 e2 => ⟨hJ.2.2.1.fr (f_X7_gate vx z1 e1) (f_X8_gate vm z2 e2) (by decide) (by decide), hJ.2.2.2.fr5 (f_X7_gate vx z1 e1) (f_X8_gate vm z2 e2) (by decide) (by decide) (fz_X7_gate vx z1 e1) (fz_X8_gate vm z2 e2), fun q => absurd q (by unfold cs1; decide)⟩)
theorem j1_fault : jop_fault J1 (cs1 6) := by
  intro vx vm  hJ
  exact jop_of (ok_map (Q := PW rgX) (k_X7_fault vx hJ.1 ) hJ.1) (ok_map (Q := IM) (k_X8_fault vm hJ.2.1 ) hJ.2.1) (rel_fr hJ.2.2.1 hJ.2.2.2 (pk_map) (pk_map) (by decide) (by decide) (by decide) (by decide) (by unfold cs1; decide))
theorem j1_nights : jop_nights J1 (cs1 7) := by
  intro vx vm a1 hJ
  exact jop_of (k_X7_nights vx hJ.1 a1) (k_X8_nights vm hJ.2.1 a1) (rel_fr hJ.2.2.1 hJ.2.2.2 (f_X7_nights vx a1) (f_X8_nights vm a1) (by decide) (by decide) (by decide) (by decide) (by unfold cs1; decide))
theorem j1_say : jop_say J1 (cs1 8) := by
  intro vx vm a1 a2 hJ
  exact jop_of (k_X7_say vx hJ.1 a1 a2) (k_X8_say vm hJ.2.1 a1 a2) (rel_fr hJ.2.2.1 hJ.2.2.2 (f_X7_say vx a1 a2) (f_X8_say vm a1 a2) (by decide) (by decide) (by decide) (by decide) (by unfold cs1; decide))
theorem j1_start : jop_start J1 (cs1 9) := by
  intro vx vm a1 hJ
  exact jop_of (k_X7_start vx hJ.1 a1) (k_X8_start vm hJ.2.1 a1) (rel_fr hJ.2.2.1 hJ.2.2.2 (f_X7_start vx a1) (f_X8_start vm a1) (by decide) (by decide) (by decide) (by decide) (by unfold cs1; decide))
theorem j1_dismiss : jop_dismiss J1 (cs1 10) := by
  intro vx vm a1 a2 hJ
  exact jop_of (k_X7_dismiss vx hJ.1 a1 a2) (k_X8_dismiss vm hJ.2.1 a1 a2) (rel_fr hJ.2.2.1 hJ.2.2.2 (f_X7_dismiss vx a1 a2) (f_X8_dismiss vm a1 a2) (by decide) (by decide) (by decide) (by decide) (by unfold cs1; decide))
theorem j1_undo : jop_undo J1 (cs1 11) := by
  intro vx vm  hJ
  exact jop_of (k_X7_undo vx hJ.1 ) (k_X8_undo vm hJ.2.1 ) (rel_fr hJ.2.2.1 hJ.2.2.2 (f_X7_undo vx ) (f_X8_undo vm ) (by decide) (by decide) (by decide) (by decide) (by unfold cs1; decide))
theorem j1_letter : jop_letter J1 (cs1 12) := by
  intro vx vm a1 a2 hJ
  exact jop_of (ok_map (Q := PW rgX) (k_X7_letter vx hJ.1 a1 a2) hJ.1) (ok_map (Q := IM) (k_X8_letter vm hJ.2.1 a1 a2) hJ.2.1) (rel_fr hJ.2.2.1 hJ.2.2.2 (pk_map) (pk_map) (by decide) (by decide) (by decide) (by decide) (by unfold cs1; decide))
theorem j1_like : jop_like J1 (cs1 13) := by
  intro vx vm a1 a2 a3 hJ
  exact jop_of (ok_map (Q := PW rgX) (k_X7_like vx hJ.1 a1 a2 a3) hJ.1) (ok_map (Q := IM) (k_X8_like vm hJ.2.1 a1 a2 a3) hJ.2.1) (rel_fr hJ.2.2.1 hJ.2.2.2 (pk_map) (pk_map) (by decide) (by decide) (by decide) (by decide) (by unfold cs1; decide))
theorem j1_guard : jop_guard J1 (cs1 14) := by
  intro vx vm a1 a2 hJ
  exact jop_of (ok_map (Q := PW rgX) (k_X7_guard vx hJ.1 a1 a2) hJ.1) (ok_map (Q := IM) (k_X8_guard vm hJ.2.1 a1 a2) hJ.2.1) (rel_fr hJ.2.2.1 hJ.2.2.2 (pk_map) (pk_map) (by decide) (by decide) (by decide) (by decide) (by unfold cs1; decide))
theorem j1_tried : jop_tried J1 (cs1 15) := by
  intro vx vm a1 a2 hJ
  exact jop_of (ok_map (Q := PW rgX) (k_X7_tried vx hJ.1 a1 a2) hJ.1) (ok_map (Q := IM) (k_X8_tried vm hJ.2.1 a1 a2) hJ.2.1) (rel_fr hJ.2.2.1 hJ.2.2.2 (pk_map) (pk_map) (by decide) (by decide) (by decide) (by decide) (by unfold cs1; decide))
theorem j1_secret : jop_secret J1 (cs1 16) := by
  intro vx vm a1 hJ
  exact jop_of (ok_map (Q := PW rgX) (k_X7_secret vx hJ.1 a1) hJ.1) (ok_map (Q := IM) (k_X8_secret vm hJ.2.1 a1) hJ.2.1) (rel_fr hJ.2.2.1 hJ.2.2.2 (pk_map) (pk_map) (by decide) (by decide) (by decide) (by decide) (by unfold cs1; decide))
theorem j1_taken : jop_taken J1 (cs1 17) := by
  intro vx vm a1 a2 a3 hJ
  exact jop_of (ok_map (Q := PW rgX) (k_X7_taken vx hJ.1 a1 a2 a3) hJ.1) (ok_map (Q := IM) (k_X8_taken vm hJ.2.1 a1 a2 a3) hJ.2.1) (rel_fr hJ.2.2.1 hJ.2.2.2 (pk_map) (pk_map) (by decide) (by decide) (by decide) (by decide) (by unfold cs1; decide))
theorem j1_safe : jop_safe J1 (cs1 18) := by
  intro vx vm a1 a2 hJ
  exact jop_of (ok_map (Q := PW rgX) (k_X7_safe vx hJ.1 a1 a2) hJ.1) (ok_map (Q := IM) (k_X8_safe vm hJ.2.1 a1 a2) hJ.2.1) (rel_fr hJ.2.2.1 hJ.2.2.2 (pk_map) (pk_map) (by decide) (by decide) (by decide) (by decide) (by unfold cs1; decide))
theorem j1_open : jop_open J1 (cs1 19) := by
  intro vx vm a1 a2 hJ
  exact jop_of (ok_map (Q := PW rgX) (k_X7_open vx hJ.1 a1 a2) hJ.1) (ok_map (Q := IM) (k_X8_open vm hJ.2.1 a1 a2) hJ.2.1) (rel_fr hJ.2.2.1 hJ.2.2.2 (pk_map) (pk_map) (by decide) (by decide) (by decide) (by decide) (by unfold cs1; decide))
theorem j1_next : jop_next J1 (cs1 20) := by
  intro vx vm a1 hJ
  exact jop_of (ok_map (Q := PW rgX) (k_X7_next vx hJ.1 a1) hJ.1) (ok_map (Q := IM) (k_X8_next vm hJ.2.1 a1) hJ.2.1) (rel_fr hJ.2.2.1 hJ.2.2.2 (pk_map) (pk_map) (by decide) (by decide) (by decide) (by decide) (by unfold cs1; decide))
theorem j1_agree : jop_agree J1 (cs1 21) := by
  intro vx vm  hJ
  exact jop_of (ok_map (Q := PW rgX) (k_X7_agree vx hJ.1 ) hJ.1) (ok_map (Q := IM) (k_X8_agree vm hJ.2.1 ) hJ.2.1) (rel_fr hJ.2.2.1 hJ.2.2.2 (pk_map) (pk_map) (by decide) (by decide) (by decide) (by decide) (by unfold cs1; decide))
theorem j1_man : jop_man J1 (cs1 22) := by
  intro vx vm a1 hJ
  exact jop_of (ok_map (Q := PW rgX) (k_X7_man vx hJ.1 a1) hJ.1) (ok_map (Q := IM) (k_X8_man vm hJ.2.1 a1) hJ.2.1) (rel_fr hJ.2.2.1 hJ.2.2.2 (pk_map) (pk_map) (by decide) (by decide) (by decide) (by decide) (by unfold cs1; decide))
theorem j1_fewest : jop_fewest J1 (cs1 23) := by
  intro vx vm  hJ
  exact jop_of (k_X7_fewest vx hJ.1 ) (k_X8_fewest vm hJ.2.1 ) (rel_fr hJ.2.2.1 hJ.2.2.2 (f_X7_fewest vx ) (f_X8_fewest vm ) (by decide) (by decide) (by decide) (by decide) (by unfold cs1; decide))
theorem j1_march : jop_march J1 (cs1 24) := by
  intro vx vm a1 a2 a3 a4 hJ
  exact jop_of (k_X7_march vx hJ.1 a1 a2 a3 a4) (k_X8_march vm hJ.2.1 a1 a2 a3 a4) (rel_fr hJ.2.2.1 hJ.2.2.2 (f_X7_march vx a1 a2 a3 a4) (f_X8_march vm a1 a2 a3 a4) (by decide) (by decide) (by decide) (by decide) (by unfold cs1; decide))
theorem j1_cheap : jop_cheap J1 (cs1 25) := by
  intro vx vm a1 a2 a3 hJ
  exact jop_of (ok_map (Q := PW rgX) (k_X7_cheap vx hJ.1 a1 a2 a3) hJ.1) (ok_map (Q := IM) (k_X8_cheap vm hJ.2.1 a1 a2 a3) hJ.2.1) (rel_fr hJ.2.2.1 hJ.2.2.2 (pk_map) (pk_map) (by decide) (by decide) (by decide) (by decide) (by unfold cs1; decide))
theorem j1_near : jop_near J1 (cs1 26) := by
  intro vx vm a1 a2 hJ
  exact jop_of (ok_map (Q := PW rgX) (k_X7_near vx hJ.1 a1 a2) hJ.1) (ok_map (Q := IM) (k_X8_near vm hJ.2.1 a1 a2) hJ.2.1) (rel_fr hJ.2.2.1 hJ.2.2.2 (pk_map) (pk_map) (by decide) (by decide) (by decide) (by decide) (by unfold cs1; decide))
theorem j1_rules : jop_rules J1 (cs1 27) := by
  intro vx vm a1 a2 a3 a4 hJ
  exact jop_of (k_X7_rules vx hJ.1 a1 a2 a3 a4) (k_X8_rules vm hJ.2.1 a1 a2 a3 a4) (rel_fr hJ.2.2.1 hJ.2.2.2 (f_X7_rules vx a1 a2 a3 a4) (f_X8_rules vm a1 a2 a3 a4) (by decide) (by decide) (by decide) (by decide) (by unfold cs1; decide))
theorem j1_fits : jop_fits J1 (cs1 28) := by
  intro vx vm a1 a2 a3 a4 hJ
  exact jop_of (k_X7_fits vx hJ.1 a1 a2 a3 a4) (k_X8_fits vm hJ.2.1 a1 a2 a3 a4) (rel_fr hJ.2.2.1 hJ.2.2.2 (f_X7_fits vx a1 a2 a3 a4) (f_X8_fits vm a1 a2 a3 a4) (by decide) (by decide) (by decide) (by decide) (by unfold cs1; decide))
theorem j1_sure : jop_sure J1 (cs1 29) := by
  intro vx vm a1 a2 a3 a4 hJ
  exact jop_of (ok_map (Q := PW rgX) (k_X7_sure vx hJ.1 a1 a2 a3 a4) hJ.1) (ok_map (Q := IM) (k_X8_sure vm hJ.2.1 a1 a2 a3 a4) hJ.2.1) (rel_fr hJ.2.2.1 hJ.2.2.2 (pk_map) (pk_map) (by decide) (by decide) (by decide) (by decide) (by unfold cs1; decide))
theorem j1_drawn : jop_drawn J1 (cs1 30) := by
  intro vx vm a1 a2 a3 hJ
  exact jop_of (ok_map (Q := PW rgX) (k_X7_drawn vx hJ.1 a1 a2 a3) hJ.1) (ok_map (Q := IM) (k_X8_drawn vm hJ.2.1 a1 a2 a3) hJ.2.1) (rel_fr hJ.2.2.1 hJ.2.2.2 (pk_map) (pk_map) (by decide) (by decide) (by decide) (by decide) (by unfold cs1; decide))
theorem j1_image : jop_image J1 (cs1 31) := by
  intro vx vm a1 hJ
  exact jop_of (k_X7_image vx hJ.1 a1) (k_X8_image vm hJ.2.1 a1) (rel_fr hJ.2.2.1 hJ.2.2.2 (f_X7_image vx a1) (f_X8_image vm a1) (by decide) (by decide) (by decide) (by decide) (by unfold cs1; decide))
theorem j1_restore : jop_restore J1 (cs1 32) := by
  intro vx vm a1 hJ
  exact jop_of (k_X7_restore vx hJ.1 a1) (k_X8_restore vm hJ.2.1 a1) (rel_fr hJ.2.2.1 hJ.2.2.2 (f_X7_restore vx a1) (f_X8_restore vm a1) (by decide) (by decide) (by decide) (by decide) (by unfold cs1; decide))
theorem j1_kind : jop_kind J1 (cs1 33) := by
  intro vx vm a1 hJ
  exact jop_of (ok_map (Q := PW rgX) (k_X7_kind vx hJ.1 a1) hJ.1) (ok_map (Q := IM) (k_X8_kind vm hJ.2.1 a1) hJ.2.1) (rel_fr hJ.2.2.1 hJ.2.2.2 (pk_map) (pk_map) (by decide) (by decide) (by decide) (by decide) (by unfold cs1; decide))
theorem j1_as : jop_as J1 (cs1 34) := by
  intro vx vm a1 a2 hJ
  exact jop_of (k_X7_as vx hJ.1 a1 a2) (k_X8_as vm hJ.2.1 a1 a2) (rel_fr hJ.2.2.1 hJ.2.2.2 (f_X7_as vx a1 a2) (f_X8_as vm a1 a2) (by decide) (by decide) (by decide) (by decide) (by unfold cs1; decide))
theorem j1_ask : jop_ask J1 (cs1 35) := by
  intro vx vm a1 a2 hJ
  exact jop_of (k_X7_ask vx hJ.1 a1 a2) (k_X8_ask vm hJ.2.1 a1 a2) (rel_fr hJ.2.2.1 hJ.2.2.2 (f_X7_ask vx a1 a2) (f_X8_ask vm a1 a2) (by decide) (by decide) (by decide) (by decide) (by unfold cs1; decide))
theorem j1_trace : jop_trace J1 (cs1 36) := by
  intro vx vm a1 hJ
  exact jop_of (ok_map (Q := PW rgX) (k_X7_trace vx hJ.1 a1) hJ.1) (ok_map (Q := IM) (k_X8_trace vm hJ.2.1 a1) hJ.2.1) (rel_fr hJ.2.2.1 hJ.2.2.2 (pk_map) (pk_map) (by decide) (by decide) (by decide) (by decide) (by unfold cs1; decide))
theorem j1_count : jop_count J1 (cs1 37) := by
  intro vx vm a1 hJ
  exact jop_of (ok_map (Q := PW rgX) (k_X7_count vx hJ.1 a1) hJ.1) (ok_map (Q := IM) (k_X8_count vm hJ.2.1 a1) hJ.2.1) (rel_fr hJ.2.2.1 hJ.2.2.2 (pk_map) (pk_map) (by decide) (by decide) (by decide) (by decide) (by unfold cs1; decide))
theorem j1_status : jop_status J1 (cs1 38) := by
  intro vx vm  hJ
  exact jop_of (ok_map (Q := PW rgX) (k_X7_status vx hJ.1 ) hJ.1) (ok_map (Q := IM) (k_X8_status vm hJ.2.1 ) hJ.2.1) (rel_fr hJ.2.2.1 hJ.2.2.2 (pk_map) (pk_map) (by decide) (by decide) (by decide) (by decide) (by unfold cs1; decide))
theorem sims1 : sims J1 cs1 := ⟨j1_row, j1_set, j1_copy, j1_drop, j1_feed, j1_gate, j1_fault, j1_nights, j1_say, j1_start, j1_dismiss, j1_undo, j1_letter, j1_like, j1_guard, j1_tried, j1_secret, j1_taken, j1_safe, j1_open, j1_next, j1_agree, j1_man, j1_fewest, j1_march, j1_cheap, j1_near, j1_rules, j1_fits, j1_sure, j1_drawn, j1_image, j1_restore, j1_kind, j1_as, j1_ask, j1_trace, j1_count, j1_status⟩
