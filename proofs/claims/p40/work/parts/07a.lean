abbrev rmX8_in : Room := { frames := 0, cells := 0, slots := 0, locals := 0 }
def g_X8_in (v : Mm) (a0 : Int32) (a1 : Int32) (a2 : Int32) : Option (Int32) := if a0 < a1 then (some 0) else (if a2 < a0 then (some 0) else (some 1))
set_option maxHeartbeats 4000000 in
set_option maxRecDepth 100000 in
theorem d_X8_in (l : Launch) (E : kq_T) (Z : km_Z) (v : Mm) (a0 : Int32) (a1 : Int32) (a2 : Int32) (hs : g_X8_in v a0 a1 a2 ≠ none) : km_I l E Z cntM yX8_in wsX8_in rmX8_in [.int a0, .int a1, .int a2] v (fun r v1 => (g_X8_in v a0 a1 a2 = some r ∧ v = v1) ∧ (r = 0 ∨ r = 1)) := by
  refine km_goZ (cc := cX8_in) (maxL := 3) (post := fun r v1 => g_X8_in v a0 a1 a2 = some r ∧ v = v1) (by decide) rfl (Nat.le_of_ble_eq_true rfl) rfl rfl rfl ?_
  intro p e s m below meth c A ls Q C hK hw hl hret
  obtain ⟨hx, hb, hml, hown, hts, -, -, -⟩ := C
  have hown : s.vm.findClass RX8 = some m.cls := hown
  have hl : lv_has ls 3 [(0, .int a0), (1, .int a1), (2, .int a2)] := hl
  have hF := g_X8_in.eq_1 v a0 a1 a2
  refine lv_iload_n hx hb dX8_in_0 rfl (lv_at hl 0 rfl) ?_
  refine lv_iload_n hx hb dX8_in_1 rfl (lv_at hl 1 rfl) ?_
  refine lv_icmp_lt (tgt := 14) hx hb dX8_in_2 (by decide) (fun c1 => ?_) (fun c1 => ?_)
  · skip
    have hF := hF.trans (if_pos c1)
    refine lv_iconst (v := 0) hx hb dX8_in_14 (by decide) ?_
    exact hret _ _ _ _ _ _ hw dX8_in_15 (Or.inl rfl) ⟨hF, rfl⟩
  · skip
    have hF := hF.trans (if_neg c1)
    refine lv_iload_n hx hb dX8_in_5 rfl (lv_at hl 0 rfl) ?_
    refine lv_iload_n hx hb dX8_in_6 rfl (lv_at hl 2 rfl) ?_
    refine lv_icmp_gt (tgt := 14) hx hb dX8_in_7 (by decide) (fun c2 => ?_) (fun c2 => ?_)
    · skip
      have hF := hF.trans (if_pos c2)
      refine lv_iconst (v := 0) hx hb dX8_in_14 (by decide) ?_
      exact hret _ _ _ _ _ _ hw dX8_in_15 (Or.inl rfl) ⟨hF, rfl⟩
    · skip
      have hF := hF.trans (if_neg c2)
      refine lv_iconst (v := 1) hx hb dX8_in_10 (by decide) ?_
      refine lv_goto (tgt := 15) hx hb dX8_in_11 (by decide) ?_
      exact hret _ _ _ _ _ _ hw dX8_in_15 (Or.inr rfl) ⟨hF, rfl⟩
abbrev rmX8_has : Room := { frames := 0, cells := 0, slots := 0, locals := 0 }
def g_X8_has (v : Mm) (a0 : Int32) (a1 : Int32) : Option (Int32) := if (a0 >>> (a1 &&& 31)) &&& 1 = 1 then (some 1) else (some 0)
set_option maxHeartbeats 4000000 in
set_option maxRecDepth 100000 in
theorem d_X8_has (l : Launch) (E : kq_T) (Z : km_Z) (v : Mm) (a0 : Int32) (a1 : Int32) (hs : g_X8_has v a0 a1 ≠ none) : km_I l E Z cntM yX8_has wsX8_has rmX8_has [.int a0, .int a1] v (fun r v1 => (g_X8_has v a0 a1 = some r ∧ v = v1) ∧ (r = 0 ∨ r = 1)) := by
  refine km_goZ (cc := cX8_has) (maxL := 2) (post := fun r v1 => g_X8_has v a0 a1 = some r ∧ v = v1) (by decide) rfl (Nat.le_of_ble_eq_true rfl) rfl rfl rfl ?_
  intro p e s m below meth c A ls Q C hK hw hl hret
  obtain ⟨hx, hb, hml, hown, hts, -, -, -⟩ := C
  have hown : s.vm.findClass RX8 = some m.cls := hown
  have hl : lv_has ls 2 [(0, .int a0), (1, .int a1)] := hl
  have hF := g_X8_has.eq_1 v a0 a1
  refine lv_iload_n hx hb dX8_has_0 rfl (lv_at hl 0 rfl) ?_
  refine lv_iload_n hx hb dX8_has_1 rfl (lv_at hl 1 rfl) ?_
  refine lv_ishr hx hb dX8_has_2 ?_
  refine lv_iconst (v := 1) hx hb dX8_has_3 (by decide) ?_
  refine lv_iand hx hb dX8_has_4 ?_
  refine lv_iconst (v := 1) hx hb dX8_has_5 (by decide) ?_
  refine lv_icmp_ne (tgt := 13) hx hb dX8_has_6 (by decide) (fun c1 => ?_) (fun c1 => ?_)
  · skip
    have hF := hF.trans (if_neg c1)
    refine lv_iconst (v := 0) hx hb dX8_has_13 (by decide) ?_
    exact hret _ _ _ _ _ _ hw dX8_has_14 (Or.inl rfl) ⟨hF, rfl⟩
  · skip
    have hF := hF.trans (if_pos c1)
    refine lv_iconst (v := 1) hx hb dX8_has_9 (by decide) ?_
    refine lv_goto (tgt := 14) hx hb dX8_has_10 (by decide) ?_
    exact hret _ _ _ _ _ _ hw dX8_has_14 (Or.inr rfl) ⟨hF, rfl⟩
abbrev rmX8_ones : Room := { frames := 0, cells := 0, slots := 0, locals := 0 }
def b_X8_ones_L4  (rec4 : Int32 → Int32 → Option (Int32)) (v : Mm) (a0 : Int32) (x1_4 : Int32) (x2_4 : Int32) : Option (Int32) := if 8 ≤ x2_4 then (some x1_4) else (Option.bind (some (x1_4 + ((a0 >>> (x2_4 &&& 31)) &&& 1))) (fun x2 => rec4 x2 (x2_4 + 1)))
def g_X8_ones_L4  (v : Mm) (a0 : Int32) : Nat → Int32 → Int32 → Option (Int32)
  | 0 => fun _ _ => none
  | n + 1 => b_X8_ones_L4  (g_X8_ones_L4  v a0 n) v a0
def g_X8_ones (v : Mm) (a0 : Int32) : Option (Int32) := g_X8_ones_L4  v a0 2000 0 0
set_option maxHeartbeats 4000000 in
set_option maxRecDepth 100000 in
theorem d_X8_ones (l : Launch) (E : kq_T) (Z : km_Z) (v : Mm) (a0 : Int32) (hs : g_X8_ones v a0 ≠ none) : km_I l E Z cntM yX8_ones wsX8_ones rmX8_ones [.int a0] v (fun r v1 => g_X8_ones v a0 = some r ∧ v = v1) := by
  refine km_goI (cc := cX8_ones) (maxL := 3) (by decide) rfl (Nat.le_of_ble_eq_true rfl) rfl rfl rfl ?_
  intro p e s m below meth c A ls Q C hK hw hl hret
  obtain ⟨hx, hb, hml, hown, hts, -, -, -⟩ := C
  have hown : s.vm.findClass RX8 = some m.cls := hown
  have hl : lv_has ls 3 [(0, .int a0)] := hl
  have hF := g_X8_ones.eq_1 v a0
  have loop4 : ∀ (n4 : Nat) (x1_4 : Int32) (x2_4 : Int32) (H : Heap) (locs : List Loc) (ls : Array Slot), g_X8_ones v a0 = g_X8_ones_L4  v a0 n4 x1_4 x2_4 → km_w E A s.heap [] Z cntM v H locs → lv_has ls 3 [(0, .int a0), (1, .int x1_4), (2, .int x2_4)] → W p l e rmX8_ones s m [.int a0].toArray below meth c H locs 0 0 Q (F0 m 4 ls []) := by
    intro n4
    induction n4 with
    | zero => intro x1_4 x2_4 H locs ls hF hw hl; exact absurd (show g_X8_ones v a0 = none from hF) hs
    | succ n4 ih4 =>
      intro x1_4 x2_4 H locs ls hF hw hl
      have hF := hF.trans (b_X8_ones_L4.eq_1  (g_X8_ones_L4  v a0 n4) v a0 x1_4 x2_4)
      refine lv_iload_n hx hb dX8_ones_4 rfl (lv_at hl 2 rfl) ?_
      refine lv_bipush (v := 8) hx hb dX8_ones_5 (by decide) ?_
      refine lv_icmp_ge (tgt := 24) hx hb dX8_ones_7 (by decide) (fun c1 => ?_) (fun c1 => ?_)
      · skip
        have hF := hF.trans (if_pos c1)
        refine lv_iload_n hx hb dX8_ones_24 rfl (lv_at hl 1 rfl) ?_
        exact hret _ _ _ _ _ _ hw dX8_ones_25 ⟨hF, rfl⟩
      · skip
        have hF := hF.trans (if_neg c1)
        refine lv_iload_n hx hb dX8_ones_10 rfl (lv_at hl 1 rfl) ?_
        refine lv_iload_n hx hb dX8_ones_11 rfl (lv_at hl 0 rfl) ?_
        refine lv_iload_n hx hb dX8_ones_12 rfl (lv_at hl 2 rfl) ?_
        refine lv_ishr hx hb dX8_ones_13 ?_
        refine lv_iconst (v := 1) hx hb dX8_ones_14 (by decide) ?_
        refine lv_iand hx hb dX8_ones_15 ?_
        refine lv_iadd hx hb dX8_ones_16 ?_
        refine lv_topi (fun x2 ex2 => ?_)
        have hF := hF.trans (kb_some (congrArg some ex2.symm) _)
        refine lv_istore_n (lv' := [(1, .int x2), (0, .int a0), (2, .int x2_4)]) hx hb dX8_ones_17 rfl hl (by decide) rfl (fun ls hl => ?_)
        refine lv_iinc (v := x2_4 + 1) (lv' := [(2, .int (x2_4 + 1)), (1, .int x2), (0, .int a0)]) hx hb dX8_ones_18 hl (k := 2) rfl rfl (by decide) rfl (fun ls hl => ?_)
        refine lv_goto (tgt := 4) hx hb dX8_ones_21 (by decide) ?_
        have hl := lv_sub (l' := [(0, .int a0), (1, .int x2), (2, .int (x2_4 + 1))]) hl [2, 1, 0] rfl
        exact ih4 x2 (x2_4 + 1) _ _ _ hF hw hl
  refine lv_iconst (v := 0) hx hb dX8_ones_0 (by decide) ?_
  refine lv_istore_n (lv' := [(1, .int 0), (0, .int a0)]) hx hb dX8_ones_1 rfl hl (by decide) rfl (fun ls hl => ?_)
  refine lv_iconst (v := 0) hx hb dX8_ones_2 (by decide) ?_
  refine lv_istore_n (lv' := [(2, .int 0), (1, .int 0), (0, .int a0)]) hx hb dX8_ones_3 rfl hl (by decide) rfl (fun ls hl => ?_)
  have hl := lv_sub (l' := [(0, .int a0), (1, .int 0), (2, .int 0)]) hl [2, 1, 0] rfl
  exact loop4 2000 0 0 _ _ _ hF hw hl
abbrev rmX8_found : Room := { frames := 0, cells := 0, slots := 0, locals := 0 }
def g_X8_found (v : Mm) (a1 : Int32) : Option (Int32 × Mm) := Option.bind (some (up3 v 30 0 4 a1)) (fun v1 => some (((-1000010)) - a1, v1))
set_option maxHeartbeats 4000000 in
set_option maxRecDepth 100000 in
theorem d_X8_found (l : Launch) (E : kq_T) (Z : km_Z) (v : Mm) (a1 : Int32) (hs : g_X8_found v a1 ≠ none) : km_I l E Z cntM yX8_found wsX8_found rmX8_found [.ref (Z.1 30 0), .int a1] v (fun r v1 => g_X8_found v a1 = some (r, v1)) := by
  refine km_goI (cc := cX8_found) (maxL := 2) (by decide) rfl (Nat.le_of_ble_eq_true rfl) rfl rfl rfl ?_
  intro p e s m below meth c A ls Q C hK hw hl hret
  obtain ⟨hx, hb, hml, hown, hts, -, -, -⟩ := C
  have hown : s.vm.findClass RX8 = some m.cls := hown
  have hl : lv_has ls 2 [(0, .ref (Z.1 30 0)), (1, .int a1)] := hl
  have hF := g_X8_found.eq_1 v a1
  refine lv_aload_n hx hb dX8_found_0 rfl (lv_at hl 0 rfl) ?_
  refine lv_iload_n hx hb dX8_found_1 rfl (lv_at hl 1 rfl) ?_
  refine km_put (ci := 8) (C := RX8) (T := TX8) (N := 23) (t := 30) (i := 0) hx hb hts fi_X8_found_X8 tyX8 tyX8_ok nmX8 hown hK hw (by decide) (by decide) rfl rfl 4 (by decide) (hts (.fieldLink RX8 51 "WrongWordModel" "status" "I") ow_X8_found_51) rfl (by decide +kernel) (Nat.le_of_ble_eq_true rfl) rfl dX8_found_2 (fun H locs hw => ?_)
  obtain ⟨v1, ev1⟩ : ∃ z, z = up3 v 30 0 4 a1 := ⟨_, rfl⟩
  rw [← ev1] at hw
  have hF := hF.trans (kb_some (congrArg some ev1.symm) _)
  refine lv_ldc (v := (-1000010)) hx hb hown (hts (.constant RX8 55 (-1000010)) ow_X8_found_55) dX8_found_5 ?_
  refine lv_iload_n hx hb dX8_found_7 rfl (lv_at hl 1 rfl) ?_
  refine lv_isub hx hb dX8_found_8 ?_
  exact hret _ _ _ _ _ _ hw dX8_found_9 hF
abbrev rmX8_well : Room := { frames := 0, cells := 0, slots := 0, locals := 0 }
def g_X8_well (v : Mm) (a1 : Int32) : Option (Int32 × Mm) := Option.bind (some (up3 v 30 0 4 0)) (fun v1 => some (a1, v1))
set_option maxHeartbeats 4000000 in
set_option maxRecDepth 100000 in
theorem d_X8_well (l : Launch) (E : kq_T) (Z : km_Z) (v : Mm) (a1 : Int32) (hs : g_X8_well v a1 ≠ none) : km_I l E Z cntM yX8_well wsX8_well rmX8_well [.ref (Z.1 30 0), .int a1] v (fun r v1 => g_X8_well v a1 = some (r, v1)) := by
  refine km_goI (cc := cX8_well) (maxL := 2) (by decide) rfl (Nat.le_of_ble_eq_true rfl) rfl rfl rfl ?_
  intro p e s m below meth c A ls Q C hK hw hl hret
  obtain ⟨hx, hb, hml, hown, hts, -, -, -⟩ := C
  have hown : s.vm.findClass RX8 = some m.cls := hown
  have hl : lv_has ls 2 [(0, .ref (Z.1 30 0)), (1, .int a1)] := hl
  have hF := g_X8_well.eq_1 v a1
  refine lv_aload_n hx hb dX8_well_0 rfl (lv_at hl 0 rfl) ?_
  refine lv_iconst (v := 0) hx hb dX8_well_1 (by decide) ?_
  refine km_put (ci := 8) (C := RX8) (T := TX8) (N := 23) (t := 30) (i := 0) hx hb hts fi_X8_well_X8 tyX8 tyX8_ok nmX8 hown hK hw (by decide) (by decide) rfl rfl 4 (by decide) (hts (.fieldLink RX8 51 "WrongWordModel" "status" "I") ow_X8_well_51) rfl (by decide +kernel) (Nat.le_of_ble_eq_true rfl) rfl dX8_well_2 (fun H locs hw => ?_)
  obtain ⟨v1, ev1⟩ : ∃ z, z = up3 v 30 0 4 0 := ⟨_, rfl⟩
  rw [← ev1] at hw
  have hF := hF.trans (kb_some (congrArg some ev1.symm) _)
  refine lv_iload_n hx hb dX8_well_5 rfl (lv_at hl 1 rfl) ?_
  exact hret _ _ _ _ _ _ hw dX8_well_6 hF
abbrev rmX8_copies_37_36 : Room := { frames := 0, cells := 0, slots := 0, locals := 0 }
def b_X8_copies_37_36_L3  (rec3 : Mm → Int32 → Option (Mm)) (a1 : Int32) (a3 : Int32) (w3 : Mm) (x4_3 : Int32) : Option (Mm) := if 65 ≤ x4_3 then (some w3) else (if a1 + x4_3 < 0 ∨ 65 ≤ Int32.toNatClampNeg (a1 + x4_3) then none else (if a3 + x4_3 < 0 ∨ 65 ≤ Int32.toNatClampNeg (a3 + x4_3) then none else (Option.bind (some (up3 w3 36 0 (Int32.toNatClampNeg (a3 + x4_3)) (w3 37 0 (Int32.toNatClampNeg (a1 + x4_3))))) (fun v4 => rec3 v4 (x4_3 + 1)))))
def g_X8_copies_37_36_L3  (a1 : Int32) (a3 : Int32) : Nat → Mm → Int32 → Option (Mm)
  | 0 => fun _ _ => none
  | n + 1 => b_X8_copies_37_36_L3  (g_X8_copies_37_36_L3  a1 a3 n) a1 a3
def g_X8_copies_37_36 (v : Mm) (a1 : Int32) (a3 : Int32) : Option (Mm) := g_X8_copies_37_36_L3  a1 a3 2000 v 0
set_option maxHeartbeats 4000000 in
set_option maxRecDepth 100000 in
theorem d_X8_copies_37_36 (l : Launch) (E : kq_T) (Z : km_Z) (v : Mm) (a1 : Int32) (a3 : Int32) (hs : g_X8_copies_37_36 v a1 a3 ≠ none) : km_V l E Z cntM yX8_copies wsX8_copies rmX8_copies_37_36 [.ref (Z.1 37 0), .int a1, .ref (Z.1 36 0), .int a3] v (fun v1 => g_X8_copies_37_36 v a1 a3 = some v1) := by
  refine km_goV (cc := cX8_copies) (maxL := 5) (by decide) rfl (Nat.le_of_ble_eq_true rfl) rfl rfl rfl ?_
  intro p e s m below meth c A ls Q C hK hw hl hret
  obtain ⟨hx, hb, hml, hown, hts, -, -, -⟩ := C
  have hown : s.vm.findClass RX8 = some m.cls := hown
  have hl : lv_has ls 5 [(0, .ref (Z.1 37 0)), (1, .int a1), (2, .ref (Z.1 36 0)), (3, .int a3)] := hl
  have hF := g_X8_copies_37_36.eq_1 v a1 a3
  have loop3 : ∀ (n3 : Nat) (w3 : Mm) (x4_3 : Int32) (H : Heap) (locs : List Loc) (ls : Array Slot), g_X8_copies_37_36 v a1 a3 = g_X8_copies_37_36_L3  a1 a3 n3 w3 x4_3 → km_w E A s.heap [] Z cntM w3 H locs → lv_has ls 5 [(0, .ref (Z.1 37 0)), (1, .int a1), (2, .ref (Z.1 36 0)), (3, .int a3), (4, .int x4_3)] → W p l e rmX8_copies_37_36 s m [.ref (Z.1 37 0), .int a1, .ref (Z.1 36 0), .int a3].toArray below meth c H locs 0 0 Q (F0 m 3 ls []) := by
    intro n3
    induction n3 with
    | zero => intro w3 x4_3 H locs ls hF hw hl; exact absurd (show g_X8_copies_37_36 v a1 a3 = none from hF) hs
    | succ n3 ih3 =>
      intro w3 x4_3 H locs ls hF hw hl
      have hF := hF.trans (b_X8_copies_37_36_L3.eq_1  (g_X8_copies_37_36_L3  a1 a3 n3) a1 a3 w3 x4_3)
      refine lv_iload hx hb dX8_copies_3 (lv_at hl 4 rfl) ?_
      refine lv_bipush (v := 65) hx hb dX8_copies_5 (by decide) ?_
      refine lv_icmp_ge (tgt := 28) hx hb dX8_copies_7 (by decide) (fun c1 => ?_) (fun c1 => ?_)
      · skip
        have hF := hF.trans (if_pos c1)
        exact hret _ _ _ _ _ hw dX8_copies_28 hF
      · skip
        have hF := hF.trans (if_neg c1)
        refine lv_aload_n hx hb dX8_copies_10 rfl (lv_at hl 2 rfl) ?_
        refine lv_iload_n hx hb dX8_copies_11 rfl (lv_at hl 3 rfl) ?_
        refine lv_iload hx hb dX8_copies_12 (lv_at hl 4 rfl) ?_
        refine lv_iadd hx hb dX8_copies_14 ?_
        refine lv_aload_n hx hb dX8_copies_15 rfl (lv_at hl 0 rfl) ?_
        refine lv_iload_n hx hb dX8_copies_16 rfl (lv_at hl 1 rfl) ?_
        refine lv_iload hx hb dX8_copies_17 (lv_at hl 4 rfl) ?_
        refine lv_iadd hx hb dX8_copies_19 ?_
        have hb2 : ¬ (a1 + x4_3 < 0 ∨ 65 ≤ Int32.toNatClampNeg (a1 + x4_3)) := fun q => hs (hF.trans (if_pos q))
        have hF := hF.trans (if_neg hb2)
        refine km_iald (t := 37) (i := 0) hx hb hK hw (by decide) (by decide) rfl hb2 dX8_copies_20 ?_
        have hb3 : ¬ (a3 + x4_3 < 0 ∨ 65 ≤ Int32.toNatClampNeg (a3 + x4_3)) := fun q => hs (hF.trans (if_pos q))
        have hF := hF.trans (if_neg hb3)
        refine km_iast (t := 36) (i := 0) (n := 65) hx hb hK hw (by decide) (by decide) (fun _ => rfl) hb3 dX8_copies_21 (fun H locs hw => ?_)
        obtain ⟨v4, ev4⟩ : ∃ z, z = up3 w3 36 0 (Int32.toNatClampNeg (a3 + x4_3)) (w3 37 0 (Int32.toNatClampNeg (a1 + x4_3))) := ⟨_, rfl⟩
        rw [← ev4] at hw
        have hF := hF.trans (kb_some (congrArg some ev4.symm) _)
        refine lv_iinc (v := x4_3 + 1) (lv' := [(4, .int (x4_3 + 1)), (0, .ref (Z.1 37 0)), (1, .int a1), (2, .ref (Z.1 36 0)), (3, .int a3)]) hx hb dX8_copies_22 hl (k := 4) rfl rfl (by decide) rfl (fun ls hl => ?_)
        refine lv_goto (tgt := 3) hx hb dX8_copies_25 (by decide) ?_
        have hl := lv_sub (l' := [(0, .ref (Z.1 37 0)), (1, .int a1), (2, .ref (Z.1 36 0)), (3, .int a3), (4, .int (x4_3 + 1))]) hl [1, 2, 3, 4, 0] rfl
        exact ih3 v4 (x4_3 + 1) _ _ _ hF hw hl
  refine lv_iconst (v := 0) hx hb dX8_copies_0 (by decide) ?_
  refine lv_istore (lv' := [(4, .int 0), (0, .ref (Z.1 37 0)), (1, .int a1), (2, .ref (Z.1 36 0)), (3, .int a3)]) hx hb dX8_copies_1 hl (by decide) rfl (fun ls hl => ?_)
  have hl := lv_sub (l' := [(0, .ref (Z.1 37 0)), (1, .int a1), (2, .ref (Z.1 36 0)), (3, .int a3), (4, .int 0)]) hl [1, 2, 3, 4, 0] rfl
  exact loop3 2000 v 0 _ _ _ hF hw hl
abbrev rmX8_copies_36_39 : Room := { frames := 0, cells := 0, slots := 0, locals := 0 }
def b_X8_copies_36_39_L3  (rec3 : Mm → Int32 → Option (Mm)) (a1 : Int32) (a3 : Int32) (w3 : Mm) (x4_3 : Int32) : Option (Mm) := if 65 ≤ x4_3 then (some w3) else (if a1 + x4_3 < 0 ∨ 65 ≤ Int32.toNatClampNeg (a1 + x4_3) then none else (if a3 + x4_3 < 0 ∨ 1560 ≤ Int32.toNatClampNeg (a3 + x4_3) then none else (Option.bind (some (up3 w3 39 0 (Int32.toNatClampNeg (a3 + x4_3)) (w3 36 0 (Int32.toNatClampNeg (a1 + x4_3))))) (fun v4 => rec3 v4 (x4_3 + 1)))))
def g_X8_copies_36_39_L3  (a1 : Int32) (a3 : Int32) : Nat → Mm → Int32 → Option (Mm)
  | 0 => fun _ _ => none
  | n + 1 => b_X8_copies_36_39_L3  (g_X8_copies_36_39_L3  a1 a3 n) a1 a3
def g_X8_copies_36_39 (v : Mm) (a1 : Int32) (a3 : Int32) : Option (Mm) := g_X8_copies_36_39_L3  a1 a3 2000 v 0
set_option maxHeartbeats 4000000 in
set_option maxRecDepth 100000 in
theorem d_X8_copies_36_39 (l : Launch) (E : kq_T) (Z : km_Z) (v : Mm) (a1 : Int32) (a3 : Int32) (hs : g_X8_copies_36_39 v a1 a3 ≠ none) : km_V l E Z cntM yX8_copies wsX8_copies rmX8_copies_36_39 [.ref (Z.1 36 0), .int a1, .ref (Z.1 39 0), .int a3] v (fun v1 => g_X8_copies_36_39 v a1 a3 = some v1) := by
  refine km_goV (cc := cX8_copies) (maxL := 5) (by decide) rfl (Nat.le_of_ble_eq_true rfl) rfl rfl rfl ?_
  intro p e s m below meth c A ls Q C hK hw hl hret
  obtain ⟨hx, hb, hml, hown, hts, -, -, -⟩ := C
  have hown : s.vm.findClass RX8 = some m.cls := hown
  have hl : lv_has ls 5 [(0, .ref (Z.1 36 0)), (1, .int a1), (2, .ref (Z.1 39 0)), (3, .int a3)] := hl
  have hF := g_X8_copies_36_39.eq_1 v a1 a3
  have loop3 : ∀ (n3 : Nat) (w3 : Mm) (x4_3 : Int32) (H : Heap) (locs : List Loc) (ls : Array Slot), g_X8_copies_36_39 v a1 a3 = g_X8_copies_36_39_L3  a1 a3 n3 w3 x4_3 → km_w E A s.heap [] Z cntM w3 H locs → lv_has ls 5 [(0, .ref (Z.1 36 0)), (1, .int a1), (2, .ref (Z.1 39 0)), (3, .int a3), (4, .int x4_3)] → W p l e rmX8_copies_36_39 s m [.ref (Z.1 36 0), .int a1, .ref (Z.1 39 0), .int a3].toArray below meth c H locs 0 0 Q (F0 m 3 ls []) := by
    intro n3
    induction n3 with
    | zero => intro w3 x4_3 H locs ls hF hw hl; exact absurd (show g_X8_copies_36_39 v a1 a3 = none from hF) hs
    | succ n3 ih3 =>
      intro w3 x4_3 H locs ls hF hw hl
      have hF := hF.trans (b_X8_copies_36_39_L3.eq_1  (g_X8_copies_36_39_L3  a1 a3 n3) a1 a3 w3 x4_3)
      refine lv_iload hx hb dX8_copies_3 (lv_at hl 4 rfl) ?_
      refine lv_bipush (v := 65) hx hb dX8_copies_5 (by decide) ?_
      refine lv_icmp_ge (tgt := 28) hx hb dX8_copies_7 (by decide) (fun c1 => ?_) (fun c1 => ?_)
      · skip
        have hF := hF.trans (if_pos c1)
        exact hret _ _ _ _ _ hw dX8_copies_28 hF
      · skip
        have hF := hF.trans (if_neg c1)
        refine lv_aload_n hx hb dX8_copies_10 rfl (lv_at hl 2 rfl) ?_
        refine lv_iload_n hx hb dX8_copies_11 rfl (lv_at hl 3 rfl) ?_
        refine lv_iload hx hb dX8_copies_12 (lv_at hl 4 rfl) ?_
        refine lv_iadd hx hb dX8_copies_14 ?_
        refine lv_aload_n hx hb dX8_copies_15 rfl (lv_at hl 0 rfl) ?_
        refine lv_iload_n hx hb dX8_copies_16 rfl (lv_at hl 1 rfl) ?_
        refine lv_iload hx hb dX8_copies_17 (lv_at hl 4 rfl) ?_
        refine lv_iadd hx hb dX8_copies_19 ?_
        have hb2 : ¬ (a1 + x4_3 < 0 ∨ 65 ≤ Int32.toNatClampNeg (a1 + x4_3)) := fun q => hs (hF.trans (if_pos q))
        have hF := hF.trans (if_neg hb2)
        refine km_iald (t := 36) (i := 0) hx hb hK hw (by decide) (by decide) rfl hb2 dX8_copies_20 ?_
        have hb3 : ¬ (a3 + x4_3 < 0 ∨ 1560 ≤ Int32.toNatClampNeg (a3 + x4_3)) := fun q => hs (hF.trans (if_pos q))
        have hF := hF.trans (if_neg hb3)
        refine km_iast (t := 39) (i := 0) (n := 1560) hx hb hK hw (by decide) (by decide) (fun _ => rfl) hb3 dX8_copies_21 (fun H locs hw => ?_)
        obtain ⟨v4, ev4⟩ : ∃ z, z = up3 w3 39 0 (Int32.toNatClampNeg (a3 + x4_3)) (w3 36 0 (Int32.toNatClampNeg (a1 + x4_3))) := ⟨_, rfl⟩
        rw [← ev4] at hw
        have hF := hF.trans (kb_some (congrArg some ev4.symm) _)
        refine lv_iinc (v := x4_3 + 1) (lv' := [(4, .int (x4_3 + 1)), (0, .ref (Z.1 36 0)), (1, .int a1), (2, .ref (Z.1 39 0)), (3, .int a3)]) hx hb dX8_copies_22 hl (k := 4) rfl rfl (by decide) rfl (fun ls hl => ?_)
        refine lv_goto (tgt := 3) hx hb dX8_copies_25 (by decide) ?_
        have hl := lv_sub (l' := [(0, .ref (Z.1 36 0)), (1, .int a1), (2, .ref (Z.1 39 0)), (3, .int a3), (4, .int (x4_3 + 1))]) hl [1, 2, 3, 4, 0] rfl
        exact ih3 v4 (x4_3 + 1) _ _ _ hF hw hl
  refine lv_iconst (v := 0) hx hb dX8_copies_0 (by decide) ?_
  refine lv_istore (lv' := [(4, .int 0), (0, .ref (Z.1 36 0)), (1, .int a1), (2, .ref (Z.1 39 0)), (3, .int a3)]) hx hb dX8_copies_1 hl (by decide) rfl (fun ls hl => ?_)
  have hl := lv_sub (l' := [(0, .ref (Z.1 36 0)), (1, .int a1), (2, .ref (Z.1 39 0)), (3, .int a3), (4, .int 0)]) hl [1, 2, 3, 4, 0] rfl
  exact loop3 2000 v 0 _ _ _ hF hw hl
abbrev rmX8_copies_39_36 : Room := { frames := 0, cells := 0, slots := 0, locals := 0 }
def b_X8_copies_39_36_L3  (rec3 : Mm → Int32 → Option (Mm)) (a1 : Int32) (a3 : Int32) (w3 : Mm) (x4_3 : Int32) : Option (Mm) := if 65 ≤ x4_3 then (some w3) else (if a1 + x4_3 < 0 ∨ 1560 ≤ Int32.toNatClampNeg (a1 + x4_3) then none else (if a3 + x4_3 < 0 ∨ 65 ≤ Int32.toNatClampNeg (a3 + x4_3) then none else (Option.bind (some (up3 w3 36 0 (Int32.toNatClampNeg (a3 + x4_3)) (w3 39 0 (Int32.toNatClampNeg (a1 + x4_3))))) (fun v4 => rec3 v4 (x4_3 + 1)))))
def g_X8_copies_39_36_L3  (a1 : Int32) (a3 : Int32) : Nat → Mm → Int32 → Option (Mm)
  | 0 => fun _ _ => none
  | n + 1 => b_X8_copies_39_36_L3  (g_X8_copies_39_36_L3  a1 a3 n) a1 a3
def g_X8_copies_39_36 (v : Mm) (a1 : Int32) (a3 : Int32) : Option (Mm) := g_X8_copies_39_36_L3  a1 a3 2000 v 0
set_option maxHeartbeats 4000000 in
set_option maxRecDepth 100000 in
theorem d_X8_copies_39_36 (l : Launch) (E : kq_T) (Z : km_Z) (v : Mm) (a1 : Int32) (a3 : Int32) (hs : g_X8_copies_39_36 v a1 a3 ≠ none) : km_V l E Z cntM yX8_copies wsX8_copies rmX8_copies_39_36 [.ref (Z.1 39 0), .int a1, .ref (Z.1 36 0), .int a3] v (fun v1 => g_X8_copies_39_36 v a1 a3 = some v1) := by
  refine km_goV (cc := cX8_copies) (maxL := 5) (by decide) rfl (Nat.le_of_ble_eq_true rfl) rfl rfl rfl ?_
  intro p e s m below meth c A ls Q C hK hw hl hret
  obtain ⟨hx, hb, hml, hown, hts, -, -, -⟩ := C
  have hown : s.vm.findClass RX8 = some m.cls := hown
  have hl : lv_has ls 5 [(0, .ref (Z.1 39 0)), (1, .int a1), (2, .ref (Z.1 36 0)), (3, .int a3)] := hl
  have hF := g_X8_copies_39_36.eq_1 v a1 a3
  have loop3 : ∀ (n3 : Nat) (w3 : Mm) (x4_3 : Int32) (H : Heap) (locs : List Loc) (ls : Array Slot), g_X8_copies_39_36 v a1 a3 = g_X8_copies_39_36_L3  a1 a3 n3 w3 x4_3 → km_w E A s.heap [] Z cntM w3 H locs → lv_has ls 5 [(0, .ref (Z.1 39 0)), (1, .int a1), (2, .ref (Z.1 36 0)), (3, .int a3), (4, .int x4_3)] → W p l e rmX8_copies_39_36 s m [.ref (Z.1 39 0), .int a1, .ref (Z.1 36 0), .int a3].toArray below meth c H locs 0 0 Q (F0 m 3 ls []) := by
    intro n3
    induction n3 with
    | zero => intro w3 x4_3 H locs ls hF hw hl; exact absurd (show g_X8_copies_39_36 v a1 a3 = none from hF) hs
    | succ n3 ih3 =>
      intro w3 x4_3 H locs ls hF hw hl
      have hF := hF.trans (b_X8_copies_39_36_L3.eq_1  (g_X8_copies_39_36_L3  a1 a3 n3) a1 a3 w3 x4_3)
      refine lv_iload hx hb dX8_copies_3 (lv_at hl 4 rfl) ?_
      refine lv_bipush (v := 65) hx hb dX8_copies_5 (by decide) ?_
      refine lv_icmp_ge (tgt := 28) hx hb dX8_copies_7 (by decide) (fun c1 => ?_) (fun c1 => ?_)
      · skip
        have hF := hF.trans (if_pos c1)
        exact hret _ _ _ _ _ hw dX8_copies_28 hF
      · skip
        have hF := hF.trans (if_neg c1)
        refine lv_aload_n hx hb dX8_copies_10 rfl (lv_at hl 2 rfl) ?_
        refine lv_iload_n hx hb dX8_copies_11 rfl (lv_at hl 3 rfl) ?_
        refine lv_iload hx hb dX8_copies_12 (lv_at hl 4 rfl) ?_
        refine lv_iadd hx hb dX8_copies_14 ?_
        refine lv_aload_n hx hb dX8_copies_15 rfl (lv_at hl 0 rfl) ?_
        refine lv_iload_n hx hb dX8_copies_16 rfl (lv_at hl 1 rfl) ?_
        refine lv_iload hx hb dX8_copies_17 (lv_at hl 4 rfl) ?_
        refine lv_iadd hx hb dX8_copies_19 ?_
        have hb2 : ¬ (a1 + x4_3 < 0 ∨ 1560 ≤ Int32.toNatClampNeg (a1 + x4_3)) := fun q => hs (hF.trans (if_pos q))
        have hF := hF.trans (if_neg hb2)
        refine km_iald (t := 39) (i := 0) hx hb hK hw (by decide) (by decide) rfl hb2 dX8_copies_20 ?_
        have hb3 : ¬ (a3 + x4_3 < 0 ∨ 65 ≤ Int32.toNatClampNeg (a3 + x4_3)) := fun q => hs (hF.trans (if_pos q))
        have hF := hF.trans (if_neg hb3)
        refine km_iast (t := 36) (i := 0) (n := 65) hx hb hK hw (by decide) (by decide) (fun _ => rfl) hb3 dX8_copies_21 (fun H locs hw => ?_)
        obtain ⟨v4, ev4⟩ : ∃ z, z = up3 w3 36 0 (Int32.toNatClampNeg (a3 + x4_3)) (w3 39 0 (Int32.toNatClampNeg (a1 + x4_3))) := ⟨_, rfl⟩
        rw [← ev4] at hw
        have hF := hF.trans (kb_some (congrArg some ev4.symm) _)
        refine lv_iinc (v := x4_3 + 1) (lv' := [(4, .int (x4_3 + 1)), (0, .ref (Z.1 39 0)), (1, .int a1), (2, .ref (Z.1 36 0)), (3, .int a3)]) hx hb dX8_copies_22 hl (k := 4) rfl rfl (by decide) rfl (fun ls hl => ?_)
        refine lv_goto (tgt := 3) hx hb dX8_copies_25 (by decide) ?_
        have hl := lv_sub (l' := [(0, .ref (Z.1 39 0)), (1, .int a1), (2, .ref (Z.1 36 0)), (3, .int a3), (4, .int (x4_3 + 1))]) hl [1, 2, 3, 4, 0] rfl
        exact ih3 v4 (x4_3 + 1) _ _ _ hF hw hl
  refine lv_iconst (v := 0) hx hb dX8_copies_0 (by decide) ?_
  refine lv_istore (lv' := [(4, .int 0), (0, .ref (Z.1 39 0)), (1, .int a1), (2, .ref (Z.1 36 0)), (3, .int a3)]) hx hb dX8_copies_1 hl (by decide) rfl (fun ls hl => ?_)
  have hl := lv_sub (l' := [(0, .ref (Z.1 39 0)), (1, .int a1), (2, .ref (Z.1 36 0)), (3, .int a3), (4, .int 0)]) hl [1, 2, 3, 4, 0] rfl
  exact loop3 2000 v 0 _ _ _ hF hw hl
abbrev rmX8_copies_36_40 : Room := { frames := 0, cells := 0, slots := 0, locals := 0 }
def b_X8_copies_36_40_L3  (rec3 : Mm → Int32 → Option (Mm)) (a1 : Int32) (a3 : Int32) (w3 : Mm) (x4_3 : Int32) : Option (Mm) := if 65 ≤ x4_3 then (some w3) else (if a1 + x4_3 < 0 ∨ 65 ≤ Int32.toNatClampNeg (a1 + x4_3) then none else (if a3 + x4_3 < 0 ∨ 130 ≤ Int32.toNatClampNeg (a3 + x4_3) then none else (Option.bind (some (up3 w3 40 0 (Int32.toNatClampNeg (a3 + x4_3)) (w3 36 0 (Int32.toNatClampNeg (a1 + x4_3))))) (fun v4 => rec3 v4 (x4_3 + 1)))))
def g_X8_copies_36_40_L3  (a1 : Int32) (a3 : Int32) : Nat → Mm → Int32 → Option (Mm)
  | 0 => fun _ _ => none
  | n + 1 => b_X8_copies_36_40_L3  (g_X8_copies_36_40_L3  a1 a3 n) a1 a3
def g_X8_copies_36_40 (v : Mm) (a1 : Int32) (a3 : Int32) : Option (Mm) := g_X8_copies_36_40_L3  a1 a3 2000 v 0
set_option maxHeartbeats 4000000 in
set_option maxRecDepth 100000 in
theorem d_X8_copies_36_40 (l : Launch) (E : kq_T) (Z : km_Z) (v : Mm) (a1 : Int32) (a3 : Int32) (hs : g_X8_copies_36_40 v a1 a3 ≠ none) : km_V l E Z cntM yX8_copies wsX8_copies rmX8_copies_36_40 [.ref (Z.1 36 0), .int a1, .ref (Z.1 40 0), .int a3] v (fun v1 => g_X8_copies_36_40 v a1 a3 = some v1) := by
  refine km_goV (cc := cX8_copies) (maxL := 5) (by decide) rfl (Nat.le_of_ble_eq_true rfl) rfl rfl rfl ?_
  intro p e s m below meth c A ls Q C hK hw hl hret
  obtain ⟨hx, hb, hml, hown, hts, -, -, -⟩ := C
  have hown : s.vm.findClass RX8 = some m.cls := hown
  have hl : lv_has ls 5 [(0, .ref (Z.1 36 0)), (1, .int a1), (2, .ref (Z.1 40 0)), (3, .int a3)] := hl
  have hF := g_X8_copies_36_40.eq_1 v a1 a3
  have loop3 : ∀ (n3 : Nat) (w3 : Mm) (x4_3 : Int32) (H : Heap) (locs : List Loc) (ls : Array Slot), g_X8_copies_36_40 v a1 a3 = g_X8_copies_36_40_L3  a1 a3 n3 w3 x4_3 → km_w E A s.heap [] Z cntM w3 H locs → lv_has ls 5 [(0, .ref (Z.1 36 0)), (1, .int a1), (2, .ref (Z.1 40 0)), (3, .int a3), (4, .int x4_3)] → W p l e rmX8_copies_36_40 s m [.ref (Z.1 36 0), .int a1, .ref (Z.1 40 0), .int a3].toArray below meth c H locs 0 0 Q (F0 m 3 ls []) := by
    intro n3
    induction n3 with
    | zero => intro w3 x4_3 H locs ls hF hw hl; exact absurd (show g_X8_copies_36_40 v a1 a3 = none from hF) hs
    | succ n3 ih3 =>
      intro w3 x4_3 H locs ls hF hw hl
      have hF := hF.trans (b_X8_copies_36_40_L3.eq_1  (g_X8_copies_36_40_L3  a1 a3 n3) a1 a3 w3 x4_3)
      refine lv_iload hx hb dX8_copies_3 (lv_at hl 4 rfl) ?_
      refine lv_bipush (v := 65) hx hb dX8_copies_5 (by decide) ?_
      refine lv_icmp_ge (tgt := 28) hx hb dX8_copies_7 (by decide) (fun c1 => ?_) (fun c1 => ?_)
      · skip
        have hF := hF.trans (if_pos c1)
        exact hret _ _ _ _ _ hw dX8_copies_28 hF
      · skip
        have hF := hF.trans (if_neg c1)
        refine lv_aload_n hx hb dX8_copies_10 rfl (lv_at hl 2 rfl) ?_
        refine lv_iload_n hx hb dX8_copies_11 rfl (lv_at hl 3 rfl) ?_
        refine lv_iload hx hb dX8_copies_12 (lv_at hl 4 rfl) ?_
        refine lv_iadd hx hb dX8_copies_14 ?_
        refine lv_aload_n hx hb dX8_copies_15 rfl (lv_at hl 0 rfl) ?_
        refine lv_iload_n hx hb dX8_copies_16 rfl (lv_at hl 1 rfl) ?_
        refine lv_iload hx hb dX8_copies_17 (lv_at hl 4 rfl) ?_
        refine lv_iadd hx hb dX8_copies_19 ?_
        have hb2 : ¬ (a1 + x4_3 < 0 ∨ 65 ≤ Int32.toNatClampNeg (a1 + x4_3)) := fun q => hs (hF.trans (if_pos q))
        have hF := hF.trans (if_neg hb2)
        refine km_iald (t := 36) (i := 0) hx hb hK hw (by decide) (by decide) rfl hb2 dX8_copies_20 ?_
        have hb3 : ¬ (a3 + x4_3 < 0 ∨ 130 ≤ Int32.toNatClampNeg (a3 + x4_3)) := fun q => hs (hF.trans (if_pos q))
        have hF := hF.trans (if_neg hb3)
        refine km_iast (t := 40) (i := 0) (n := 130) hx hb hK hw (by decide) (by decide) (fun _ => rfl) hb3 dX8_copies_21 (fun H locs hw => ?_)
        obtain ⟨v4, ev4⟩ : ∃ z, z = up3 w3 40 0 (Int32.toNatClampNeg (a3 + x4_3)) (w3 36 0 (Int32.toNatClampNeg (a1 + x4_3))) := ⟨_, rfl⟩
        rw [← ev4] at hw
        have hF := hF.trans (kb_some (congrArg some ev4.symm) _)
        refine lv_iinc (v := x4_3 + 1) (lv' := [(4, .int (x4_3 + 1)), (0, .ref (Z.1 36 0)), (1, .int a1), (2, .ref (Z.1 40 0)), (3, .int a3)]) hx hb dX8_copies_22 hl (k := 4) rfl rfl (by decide) rfl (fun ls hl => ?_)
        refine lv_goto (tgt := 3) hx hb dX8_copies_25 (by decide) ?_
        have hl := lv_sub (l' := [(0, .ref (Z.1 36 0)), (1, .int a1), (2, .ref (Z.1 40 0)), (3, .int a3), (4, .int (x4_3 + 1))]) hl [1, 2, 3, 4, 0] rfl
        exact ih3 v4 (x4_3 + 1) _ _ _ hF hw hl
  refine lv_iconst (v := 0) hx hb dX8_copies_0 (by decide) ?_
  refine lv_istore (lv' := [(4, .int 0), (0, .ref (Z.1 36 0)), (1, .int a1), (2, .ref (Z.1 40 0)), (3, .int a3)]) hx hb dX8_copies_1 hl (by decide) rfl (fun ls hl => ?_)
  have hl := lv_sub (l' := [(0, .ref (Z.1 36 0)), (1, .int a1), (2, .ref (Z.1 40 0)), (3, .int a3), (4, .int 0)]) hl [1, 2, 3, 4, 0] rfl
  exact loop3 2000 v 0 _ _ _ hF hw hl
abbrev rmX8_copies_40_36 : Room := { frames := 0, cells := 0, slots := 0, locals := 0 }
def b_X8_copies_40_36_L3  (rec3 : Mm → Int32 → Option (Mm)) (a1 : Int32) (a3 : Int32) (w3 : Mm) (x4_3 : Int32) : Option (Mm) := if 65 ≤ x4_3 then (some w3) else (if a1 + x4_3 < 0 ∨ 130 ≤ Int32.toNatClampNeg (a1 + x4_3) then none else (if a3 + x4_3 < 0 ∨ 65 ≤ Int32.toNatClampNeg (a3 + x4_3) then none else (Option.bind (some (up3 w3 36 0 (Int32.toNatClampNeg (a3 + x4_3)) (w3 40 0 (Int32.toNatClampNeg (a1 + x4_3))))) (fun v4 => rec3 v4 (x4_3 + 1)))))
def g_X8_copies_40_36_L3  (a1 : Int32) (a3 : Int32) : Nat → Mm → Int32 → Option (Mm)
  | 0 => fun _ _ => none
  | n + 1 => b_X8_copies_40_36_L3  (g_X8_copies_40_36_L3  a1 a3 n) a1 a3
def g_X8_copies_40_36 (v : Mm) (a1 : Int32) (a3 : Int32) : Option (Mm) := g_X8_copies_40_36_L3  a1 a3 2000 v 0
set_option maxHeartbeats 4000000 in
set_option maxRecDepth 100000 in
theorem d_X8_copies_40_36 (l : Launch) (E : kq_T) (Z : km_Z) (v : Mm) (a1 : Int32) (a3 : Int32) (hs : g_X8_copies_40_36 v a1 a3 ≠ none) : km_V l E Z cntM yX8_copies wsX8_copies rmX8_copies_40_36 [.ref (Z.1 40 0), .int a1, .ref (Z.1 36 0), .int a3] v (fun v1 => g_X8_copies_40_36 v a1 a3 = some v1) := by
  refine km_goV (cc := cX8_copies) (maxL := 5) (by decide) rfl (Nat.le_of_ble_eq_true rfl) rfl rfl rfl ?_
  intro p e s m below meth c A ls Q C hK hw hl hret
  obtain ⟨hx, hb, hml, hown, hts, -, -, -⟩ := C
  have hown : s.vm.findClass RX8 = some m.cls := hown
  have hl : lv_has ls 5 [(0, .ref (Z.1 40 0)), (1, .int a1), (2, .ref (Z.1 36 0)), (3, .int a3)] := hl
  have hF := g_X8_copies_40_36.eq_1 v a1 a3
  have loop3 : ∀ (n3 : Nat) (w3 : Mm) (x4_3 : Int32) (H : Heap) (locs : List Loc) (ls : Array Slot), g_X8_copies_40_36 v a1 a3 = g_X8_copies_40_36_L3  a1 a3 n3 w3 x4_3 → km_w E A s.heap [] Z cntM w3 H locs → lv_has ls 5 [(0, .ref (Z.1 40 0)), (1, .int a1), (2, .ref (Z.1 36 0)), (3, .int a3), (4, .int x4_3)] → W p l e rmX8_copies_40_36 s m [.ref (Z.1 40 0), .int a1, .ref (Z.1 36 0), .int a3].toArray below meth c H locs 0 0 Q (F0 m 3 ls []) := by
    intro n3
    induction n3 with
    | zero => intro w3 x4_3 H locs ls hF hw hl; exact absurd (show g_X8_copies_40_36 v a1 a3 = none from hF) hs
    | succ n3 ih3 =>
      intro w3 x4_3 H locs ls hF hw hl
      have hF := hF.trans (b_X8_copies_40_36_L3.eq_1  (g_X8_copies_40_36_L3  a1 a3 n3) a1 a3 w3 x4_3)
      refine lv_iload hx hb dX8_copies_3 (lv_at hl 4 rfl) ?_
      refine lv_bipush (v := 65) hx hb dX8_copies_5 (by decide) ?_
      refine lv_icmp_ge (tgt := 28) hx hb dX8_copies_7 (by decide) (fun c1 => ?_) (fun c1 => ?_)
      · skip
        have hF := hF.trans (if_pos c1)
        exact hret _ _ _ _ _ hw dX8_copies_28 hF
      · skip
        have hF := hF.trans (if_neg c1)
        refine lv_aload_n hx hb dX8_copies_10 rfl (lv_at hl 2 rfl) ?_
        refine lv_iload_n hx hb dX8_copies_11 rfl (lv_at hl 3 rfl) ?_
        refine lv_iload hx hb dX8_copies_12 (lv_at hl 4 rfl) ?_
        refine lv_iadd hx hb dX8_copies_14 ?_
        refine lv_aload_n hx hb dX8_copies_15 rfl (lv_at hl 0 rfl) ?_
        refine lv_iload_n hx hb dX8_copies_16 rfl (lv_at hl 1 rfl) ?_
        refine lv_iload hx hb dX8_copies_17 (lv_at hl 4 rfl) ?_
        refine lv_iadd hx hb dX8_copies_19 ?_
        have hb2 : ¬ (a1 + x4_3 < 0 ∨ 130 ≤ Int32.toNatClampNeg (a1 + x4_3)) := fun q => hs (hF.trans (if_pos q))
        have hF := hF.trans (if_neg hb2)
        refine km_iald (t := 40) (i := 0) hx hb hK hw (by decide) (by decide) rfl hb2 dX8_copies_20 ?_
        have hb3 : ¬ (a3 + x4_3 < 0 ∨ 65 ≤ Int32.toNatClampNeg (a3 + x4_3)) := fun q => hs (hF.trans (if_pos q))
        have hF := hF.trans (if_neg hb3)
        refine km_iast (t := 36) (i := 0) (n := 65) hx hb hK hw (by decide) (by decide) (fun _ => rfl) hb3 dX8_copies_21 (fun H locs hw => ?_)
        obtain ⟨v4, ev4⟩ : ∃ z, z = up3 w3 36 0 (Int32.toNatClampNeg (a3 + x4_3)) (w3 40 0 (Int32.toNatClampNeg (a1 + x4_3))) := ⟨_, rfl⟩
        rw [← ev4] at hw
        have hF := hF.trans (kb_some (congrArg some ev4.symm) _)
        refine lv_iinc (v := x4_3 + 1) (lv' := [(4, .int (x4_3 + 1)), (0, .ref (Z.1 40 0)), (1, .int a1), (2, .ref (Z.1 36 0)), (3, .int a3)]) hx hb dX8_copies_22 hl (k := 4) rfl rfl (by decide) rfl (fun ls hl => ?_)
        refine lv_goto (tgt := 3) hx hb dX8_copies_25 (by decide) ?_
        have hl := lv_sub (l' := [(0, .ref (Z.1 40 0)), (1, .int a1), (2, .ref (Z.1 36 0)), (3, .int a3), (4, .int (x4_3 + 1))]) hl [1, 2, 3, 4, 0] rfl
        exact ih3 v4 (x4_3 + 1) _ _ _ hF hw hl
  refine lv_iconst (v := 0) hx hb dX8_copies_0 (by decide) ?_
  refine lv_istore (lv' := [(4, .int 0), (0, .ref (Z.1 40 0)), (1, .int a1), (2, .ref (Z.1 36 0)), (3, .int a3)]) hx hb dX8_copies_1 hl (by decide) rfl (fun ls hl => ?_)
  have hl := lv_sub (l' := [(0, .ref (Z.1 40 0)), (1, .int a1), (2, .ref (Z.1 36 0)), (3, .int a3), (4, .int 0)]) hl [1, 2, 3, 4, 0] rfl
  exact loop3 2000 v 0 _ _ _ hF hw hl
abbrev rmX8_copies_36_38 : Room := { frames := 0, cells := 0, slots := 0, locals := 0 }
def b_X8_copies_36_38_L3  (rec3 : Mm → Int32 → Option (Mm)) (a1 : Int32) (a3 : Int32) (w3 : Mm) (x4_3 : Int32) : Option (Mm) := if 65 ≤ x4_3 then (some w3) else (if a1 + x4_3 < 0 ∨ 65 ≤ Int32.toNatClampNeg (a1 + x4_3) then none else (if a3 + x4_3 < 0 ∨ 65 ≤ Int32.toNatClampNeg (a3 + x4_3) then none else (Option.bind (some (up3 w3 38 0 (Int32.toNatClampNeg (a3 + x4_3)) (w3 36 0 (Int32.toNatClampNeg (a1 + x4_3))))) (fun v4 => rec3 v4 (x4_3 + 1)))))
def g_X8_copies_36_38_L3  (a1 : Int32) (a3 : Int32) : Nat → Mm → Int32 → Option (Mm)
  | 0 => fun _ _ => none
  | n + 1 => b_X8_copies_36_38_L3  (g_X8_copies_36_38_L3  a1 a3 n) a1 a3
def g_X8_copies_36_38 (v : Mm) (a1 : Int32) (a3 : Int32) : Option (Mm) := g_X8_copies_36_38_L3  a1 a3 2000 v 0
set_option maxHeartbeats 4000000 in
set_option maxRecDepth 100000 in
theorem d_X8_copies_36_38 (l : Launch) (E : kq_T) (Z : km_Z) (v : Mm) (a1 : Int32) (a3 : Int32) (hs : g_X8_copies_36_38 v a1 a3 ≠ none) : km_V l E Z cntM yX8_copies wsX8_copies rmX8_copies_36_38 [.ref (Z.1 36 0), .int a1, .ref (Z.1 38 0), .int a3] v (fun v1 => g_X8_copies_36_38 v a1 a3 = some v1) := by
  refine km_goV (cc := cX8_copies) (maxL := 5) (by decide) rfl (Nat.le_of_ble_eq_true rfl) rfl rfl rfl ?_
  intro p e s m below meth c A ls Q C hK hw hl hret
  obtain ⟨hx, hb, hml, hown, hts, -, -, -⟩ := C
  have hown : s.vm.findClass RX8 = some m.cls := hown
  have hl : lv_has ls 5 [(0, .ref (Z.1 36 0)), (1, .int a1), (2, .ref (Z.1 38 0)), (3, .int a3)] := hl
  have hF := g_X8_copies_36_38.eq_1 v a1 a3
  have loop3 : ∀ (n3 : Nat) (w3 : Mm) (x4_3 : Int32) (H : Heap) (locs : List Loc) (ls : Array Slot), g_X8_copies_36_38 v a1 a3 = g_X8_copies_36_38_L3  a1 a3 n3 w3 x4_3 → km_w E A s.heap [] Z cntM w3 H locs → lv_has ls 5 [(0, .ref (Z.1 36 0)), (1, .int a1), (2, .ref (Z.1 38 0)), (3, .int a3), (4, .int x4_3)] → W p l e rmX8_copies_36_38 s m [.ref (Z.1 36 0), .int a1, .ref (Z.1 38 0), .int a3].toArray below meth c H locs 0 0 Q (F0 m 3 ls []) := by
    intro n3
    induction n3 with
    | zero => intro w3 x4_3 H locs ls hF hw hl; exact absurd (show g_X8_copies_36_38 v a1 a3 = none from hF) hs
    | succ n3 ih3 =>
      intro w3 x4_3 H locs ls hF hw hl
      have hF := hF.trans (b_X8_copies_36_38_L3.eq_1  (g_X8_copies_36_38_L3  a1 a3 n3) a1 a3 w3 x4_3)
      refine lv_iload hx hb dX8_copies_3 (lv_at hl 4 rfl) ?_
      refine lv_bipush (v := 65) hx hb dX8_copies_5 (by decide) ?_
      refine lv_icmp_ge (tgt := 28) hx hb dX8_copies_7 (by decide) (fun c1 => ?_) (fun c1 => ?_)
      · skip
        have hF := hF.trans (if_pos c1)
        exact hret _ _ _ _ _ hw dX8_copies_28 hF
      · skip
        have hF := hF.trans (if_neg c1)
        refine lv_aload_n hx hb dX8_copies_10 rfl (lv_at hl 2 rfl) ?_
        refine lv_iload_n hx hb dX8_copies_11 rfl (lv_at hl 3 rfl) ?_
        refine lv_iload hx hb dX8_copies_12 (lv_at hl 4 rfl) ?_
        refine lv_iadd hx hb dX8_copies_14 ?_
        refine lv_aload_n hx hb dX8_copies_15 rfl (lv_at hl 0 rfl) ?_
        refine lv_iload_n hx hb dX8_copies_16 rfl (lv_at hl 1 rfl) ?_
        refine lv_iload hx hb dX8_copies_17 (lv_at hl 4 rfl) ?_
        refine lv_iadd hx hb dX8_copies_19 ?_
        have hb2 : ¬ (a1 + x4_3 < 0 ∨ 65 ≤ Int32.toNatClampNeg (a1 + x4_3)) := fun q => hs (hF.trans (if_pos q))
        have hF := hF.trans (if_neg hb2)
        refine km_iald (t := 36) (i := 0) hx hb hK hw (by decide) (by decide) rfl hb2 dX8_copies_20 ?_
        have hb3 : ¬ (a3 + x4_3 < 0 ∨ 65 ≤ Int32.toNatClampNeg (a3 + x4_3)) := fun q => hs (hF.trans (if_pos q))
        have hF := hF.trans (if_neg hb3)
        refine km_iast (t := 38) (i := 0) (n := 65) hx hb hK hw (by decide) (by decide) (fun _ => rfl) hb3 dX8_copies_21 (fun H locs hw => ?_)
        obtain ⟨v4, ev4⟩ : ∃ z, z = up3 w3 38 0 (Int32.toNatClampNeg (a3 + x4_3)) (w3 36 0 (Int32.toNatClampNeg (a1 + x4_3))) := ⟨_, rfl⟩
        rw [← ev4] at hw
        have hF := hF.trans (kb_some (congrArg some ev4.symm) _)
        refine lv_iinc (v := x4_3 + 1) (lv' := [(4, .int (x4_3 + 1)), (0, .ref (Z.1 36 0)), (1, .int a1), (2, .ref (Z.1 38 0)), (3, .int a3)]) hx hb dX8_copies_22 hl (k := 4) rfl rfl (by decide) rfl (fun ls hl => ?_)
        refine lv_goto (tgt := 3) hx hb dX8_copies_25 (by decide) ?_
        have hl := lv_sub (l' := [(0, .ref (Z.1 36 0)), (1, .int a1), (2, .ref (Z.1 38 0)), (3, .int a3), (4, .int (x4_3 + 1))]) hl [1, 2, 3, 4, 0] rfl
        exact ih3 v4 (x4_3 + 1) _ _ _ hF hw hl
  refine lv_iconst (v := 0) hx hb dX8_copies_0 (by decide) ?_
  refine lv_istore (lv' := [(4, .int 0), (0, .ref (Z.1 36 0)), (1, .int a1), (2, .ref (Z.1 38 0)), (3, .int a3)]) hx hb dX8_copies_1 hl (by decide) rfl (fun ls hl => ?_)
  have hl := lv_sub (l' := [(0, .ref (Z.1 36 0)), (1, .int a1), (2, .ref (Z.1 38 0)), (3, .int a3), (4, .int 0)]) hl [1, 2, 3, 4, 0] rfl
  exact loop3 2000 v 0 _ _ _ hF hw hl
abbrev rmX8_isRow : Room := { frames := 1, cells := 0, slots := 0, locals := 22 }
def g_X8_isRow (v : Mm) (a0 : Int32) : Option (Int32) := Option.bind (g_X8_in v a0 0 7) (fun r2 => some r2)
set_option maxHeartbeats 4000000 in
set_option maxRecDepth 100000 in
theorem d_X8_isRow (l : Launch) (E : kq_T) (Z : km_Z) (v : Mm) (a0 : Int32) (hs : g_X8_isRow v a0 ≠ none) : km_I l E Z cntM yX8_isRow wsX8_isRow rmX8_isRow [.int a0] v (fun r v1 => (g_X8_isRow v a0 = some r ∧ v = v1) ∧ (r = 0 ∨ r = 1)) := by
  refine km_goZ (cc := cX8_isRow) (maxL := 1) (post := fun r v1 => g_X8_isRow v a0 = some r ∧ v = v1) (by decide) rfl (Nat.le_of_ble_eq_true rfl) rfl rfl rfl ?_
  intro p e s m below meth c A ls Q C hK hw hl hret
  obtain ⟨hx, hb, hml, hown, hts, -, -, -⟩ := C
  have hown : s.vm.findClass RX8 = some m.cls := hown
  have hl : lv_has ls 1 [(0, .int a0)] := hl
  have hF := g_X8_isRow.eq_1 v a0
  refine lv_iload_n hx hb dX8_isRow_0 rfl (lv_at hl 0 rfl) ?_
  refine lv_iconst (v := 0) hx hb dX8_isRow_1 (by decide) ?_
  refine lv_bipush (v := 7) hx hb dX8_isRow_2 (by decide) ?_
  have hs1 : g_X8_in v a0 0 7 ≠ none := fun q => hs (hF.trans (kb_n q _))
  refine km_cS (As := [.int a0, .int 0, .int 7]) (rest := []) (n := 3) ⟨hx, hb, hml, hown, hts⟩ (d_X8_in l E Z v a0 0 7 hs1) gX8_isRow_X8_in rfl hV_X8_in ⟨Nat.le_of_ble_eq_true rfl, Nat.le_of_ble_eq_true rfl⟩ hK hw rfl hl.1 rfl (Nat.le_of_ble_eq_true rfl) dX8_isRow_4 rfl rfl (fun r2 v3 H locs hp hw => ?_)
  obtain ⟨hp, hzr2⟩ := hp
  obtain ⟨hp, rfl⟩ := hp
  have hF := hF.trans (kb_some hp _)
  exact hret _ _ _ _ _ _ hw dX8_isRow_7 hzr2 ⟨hF, rfl⟩
abbrev rmX8_isMissing : Room := { frames := 0, cells := 0, slots := 0, locals := 0 }
def g_X8_isMissing (v : Mm) (a1 : Int32) : Option (Int32) := if a1 < 0 ∨ 8 ≤ Int32.toNatClampNeg a1 then none else (if v 31 0 (Int32.toNatClampNeg a1) = (-1000000) then (some 1) else (some 0))
set_option maxHeartbeats 4000000 in
set_option maxRecDepth 100000 in
theorem d_X8_isMissing (l : Launch) (E : kq_T) (Z : km_Z) (v : Mm) (a1 : Int32) (hs : g_X8_isMissing v a1 ≠ none) : km_I l E Z cntM yX8_isMissing wsX8_isMissing rmX8_isMissing [.ref (Z.1 30 0), .int a1] v (fun r v1 => (g_X8_isMissing v a1 = some r ∧ v = v1) ∧ (r = 0 ∨ r = 1)) := by
  refine km_goZ (cc := cX8_isMissing) (maxL := 2) (post := fun r v1 => g_X8_isMissing v a1 = some r ∧ v = v1) (by decide) rfl (Nat.le_of_ble_eq_true rfl) rfl rfl rfl ?_
  intro p e s m below meth c A ls Q C hK hw hl hret
  obtain ⟨hx, hb, hml, hown, hts, -, -, -⟩ := C
  have hown : s.vm.findClass RX8 = some m.cls := hown
  have hl : lv_has ls 2 [(0, .ref (Z.1 30 0)), (1, .int a1)] := hl
  have hF := g_X8_isMissing.eq_1 v a1
  refine lv_aload_n hx hb dX8_isMissing_0 rfl (lv_at hl 0 rfl) ?_
  refine km_get (ci := 8) (C := RX8) (T := TX8) (N := 23) (t := 30) (i := 0) hx hb hts fi_X8_isMissing_X8 hown hK hw (by decide) (by decide) rfl rfl 0 (by decide) (hts (.fieldLink RX8 7 "WrongWordModel" "lane" "[I") ow_X8_isMissing_7) rfl dX8_isMissing_1 ?_
  refine lv_iload_n hx hb dX8_isMissing_4 rfl (lv_at hl 1 rfl) ?_
  have hb1 : ¬ (a1 < 0 ∨ 8 ≤ Int32.toNatClampNeg a1) := fun q => hs (hF.trans (if_pos q))
  have hF := hF.trans (if_neg hb1)
  refine km_iald (t := 31) (i := 0) hx hb hK hw (by decide) (by decide) rfl hb1 dX8_isMissing_5 ?_
  refine lv_ldc (v := (-1000000)) hx hb hown (hts (.constant RX8 50 (-1000000)) ow_X8_isMissing_50) dX8_isMissing_6 ?_
  refine lv_icmp_ne (tgt := 15) hx hb dX8_isMissing_8 (by decide) (fun c2 => ?_) (fun c2 => ?_)
  · skip
    have hF := hF.trans (if_neg c2)
    refine lv_iconst (v := 0) hx hb dX8_isMissing_15 (by decide) ?_
    exact hret _ _ _ _ _ _ hw dX8_isMissing_16 (Or.inl rfl) ⟨hF, rfl⟩
  · skip
    have hF := hF.trans (if_pos c2)
    refine lv_iconst (v := 1) hx hb dX8_isMissing_11 (by decide) ?_
    refine lv_goto (tgt := 16) hx hb dX8_isMissing_12 (by decide) ?_
    exact hret _ _ _ _ _ _ hw dX8_isMissing_16 (Or.inr rfl) ⟨hF, rfl⟩
abbrev rmX8_cut : Room := { frames := 0, cells := 0, slots := 0, locals := 0 }
def g_X8_cut (v : Mm) (a0 : Int32) (a1 : Int32) : Option (Int32) := if a0 = 0 then (some ((a1 <<< (24 &&& 31)) >>> (24 &&& 31))) else (if a0 = 1 then (some ((a1 <<< (16 &&& 31)) >>> (16 &&& 31))) else (some a1))
set_option maxHeartbeats 4000000 in
set_option maxRecDepth 100000 in
theorem d_X8_cut (l : Launch) (E : kq_T) (Z : km_Z) (v : Mm) (a0 : Int32) (a1 : Int32) (hs : g_X8_cut v a0 a1 ≠ none) : km_I l E Z cntM yX8_cut wsX8_cut rmX8_cut [.int a0, .int a1] v (fun r v1 => g_X8_cut v a0 a1 = some r ∧ v = v1) := by
  refine km_goI (cc := cX8_cut) (maxL := 2) (by decide) rfl (Nat.le_of_ble_eq_true rfl) rfl rfl rfl ?_
  intro p e s m below meth c A ls Q C hK hw hl hret
  obtain ⟨hx, hb, hml, hown, hts, -, -, -⟩ := C
  have hown : s.vm.findClass RX8 = some m.cls := hown
  have hl : lv_has ls 2 [(0, .int a0), (1, .int a1)] := hl
  have hF := g_X8_cut.eq_1 v a0 a1
  refine lv_iload_n hx hb dX8_cut_0 rfl (lv_at hl 0 rfl) ?_
  refine lv_if_ne (tgt := 14) hx hb dX8_cut_1 (by decide) (fun c1 => ?_) (fun c1 => ?_)
  · skip
    have hF := hF.trans (if_neg c1)
    refine lv_iload_n hx hb dX8_cut_14 rfl (lv_at hl 0 rfl) ?_
    refine lv_iconst (v := 1) hx hb dX8_cut_15 (by decide) ?_
    refine lv_icmp_ne (tgt := 29) hx hb dX8_cut_16 (by decide) (fun c2 => ?_) (fun c2 => ?_)
    · skip
      have hF := hF.trans (if_neg c2)
      refine lv_iload_n hx hb dX8_cut_29 rfl (lv_at hl 1 rfl) ?_
      exact hret _ _ _ _ _ _ hw dX8_cut_30 ⟨hF, rfl⟩
    · skip
      have hF := hF.trans (if_pos c2)
      refine lv_iload_n hx hb dX8_cut_19 rfl (lv_at hl 1 rfl) ?_
      refine lv_bipush (v := 16) hx hb dX8_cut_20 (by decide) ?_
      refine lv_ishl hx hb dX8_cut_22 ?_
      refine lv_bipush (v := 16) hx hb dX8_cut_23 (by decide) ?_
      refine lv_ishr hx hb dX8_cut_25 ?_
      refine lv_goto (tgt := 30) hx hb dX8_cut_26 (by decide) ?_
      exact hret _ _ _ _ _ _ hw dX8_cut_30 ⟨hF, rfl⟩
  · skip
    have hF := hF.trans (if_pos c1)
    refine lv_iload_n hx hb dX8_cut_4 rfl (lv_at hl 1 rfl) ?_
    refine lv_bipush (v := 24) hx hb dX8_cut_5 (by decide) ?_
    refine lv_ishl hx hb dX8_cut_7 ?_
    refine lv_bipush (v := 24) hx hb dX8_cut_8 (by decide) ?_
    refine lv_ishr hx hb dX8_cut_10 ?_
    refine lv_goto (tgt := 30) hx hb dX8_cut_11 (by decide) ?_
    exact hret _ _ _ _ _ _ hw dX8_cut_30 ⟨hF, rfl⟩
abbrev rmX8_row : Room := { frames := 2, cells := 0, slots := 0, locals := 42 }
def b_X8_row_L52  (rec52 : Mm → Int32 → Option (Int32 × Mm)) (a1 : Int32) (a2 : Int32) (a3 : Int32) (w52 : Mm) (x4_52 : Int32) : Option (Int32 × Mm) := if 40 ≤ x4_52 then (kb2 (g_X8_well w52 a3) (fun r17 v18 => some (r17, v18))) else (if ((40 : Int32) * a1) + x4_52 < 0 ∨ 320 ≤ Int32.toNatClampNeg (((40 : Int32) * a1) + x4_52) then none else (Option.bind (some (up3 w52 33 0 (Int32.toNatClampNeg (((40 : Int32) * a1) + x4_52)) 0)) (fun v20 => rec52 v20 (x4_52 + 1))))
def g_X8_row_L52  (a1 : Int32) (a2 : Int32) (a3 : Int32) : Nat → Mm → Int32 → Option (Int32 × Mm)
  | 0 => fun _ _ => none
  | n + 1 => b_X8_row_L52  (g_X8_row_L52  a1 a2 a3 n) a1 a2 a3
def g_X8_row (v : Mm) (a1 : Int32) (a2 : Int32) (a3 : Int32) : Option (Int32 × Mm) := Option.bind (g_X8_isRow v a1) (fun r2 => if r2 = 0 then (some ((-1000001), v)) else (Option.bind (g_X8_in v a2 0 2) (fun r6 => if r6 = 0 then (some ((-1000001), v)) else (if a3 ≤ 40 then (if 0 ≤ a3 then (if a1 < 0 ∨ 8 ≤ Int32.toNatClampNeg a1 then none else (Option.bind (some (up3 v 31 0 (Int32.toNatClampNeg a1) a2)) (fun v12 => if a1 < 0 ∨ 8 ≤ Int32.toNatClampNeg a1 then none else (Option.bind (some (up3 v12 32 0 (Int32.toNatClampNeg a1) a3)) (fun v14 => g_X8_row_L52  a1 a2 a3 2000 v14 0))))) else (kb2 (g_X8_found v 4) (fun r16 v17 => some (r16, v17)))) else (some ((-1000001), v))))))
set_option maxHeartbeats 4000000 in
set_option maxRecDepth 100000 in
theorem d_X8_row (l : Launch) (E : kq_T) (Z : km_Z) (v : Mm) (a1 : Int32) (a2 : Int32) (a3 : Int32) (hs : g_X8_row v a1 a2 a3 ≠ none) : km_I l E Z cntM yX8_row wsX8_row rmX8_row [.ref (Z.1 30 0), .int a1, .int a2, .int a3] v (fun r v1 => g_X8_row v a1 a2 a3 = some (r, v1)) := by
  refine km_goI (cc := cX8_row) (maxL := 5) (by decide) rfl (Nat.le_of_ble_eq_true rfl) rfl rfl rfl ?_
  intro p e s m below meth c A ls Q C hK hw hl hret
  obtain ⟨hx, hb, hml, hown, hts, -, -, -⟩ := C
  have hown : s.vm.findClass RX8 = some m.cls := hown
  have hl : lv_has ls 5 [(0, .ref (Z.1 30 0)), (1, .int a1), (2, .int a2), (3, .int a3)] := hl
  have hF := g_X8_row.eq_1 v a1 a2 a3
  have loop52 : ∀ (n52 : Nat) (w52 : Mm) (x4_52 : Int32) (H : Heap) (locs : List Loc) (ls : Array Slot), g_X8_row v a1 a2 a3 = g_X8_row_L52  a1 a2 a3 n52 w52 x4_52 → km_w E A s.heap [] Z cntM w52 H locs → lv_has ls 5 [(0, .ref (Z.1 30 0)), (1, .int a1), (2, .int a2), (3, .int a3), (4, .int x4_52)] → W p l e rmX8_row s m [.ref (Z.1 30 0), .int a1, .int a2, .int a3].toArray below meth c H locs 0 0 Q (F0 m 52 ls []) := by
    intro n52
    induction n52 with
    | zero => intro w52 x4_52 H locs ls hF hw hl; exact absurd (show g_X8_row v a1 a2 a3 = none from hF) hs
    | succ n52 ih52 =>
      intro w52 x4_52 H locs ls hF hw hl
      have hF := hF.trans (b_X8_row_L52.eq_1  (g_X8_row_L52  a1 a2 a3 n52) a1 a2 a3 w52 x4_52)
      refine lv_iload hx hb dX8_row_52 (lv_at hl 4 rfl) ?_
      refine lv_bipush (v := 40) hx hb dX8_row_54 (by decide) ?_
      refine lv_icmp_ge (tgt := 78) hx hb dX8_row_56 (by decide) (fun c1 => ?_) (fun c1 => ?_)
      · skip
        have hF := hF.trans (if_pos c1)
        refine lv_aload_n hx hb dX8_row_78 rfl (lv_at hl 0 rfl) ?_
        refine lv_iload_n hx hb dX8_row_79 rfl (lv_at hl 3 rfl) ?_
        have hs2 : g_X8_well w52 a3 ≠ none := fun q => hs (hF.trans (kb2_n q _))
        refine km_cI (As := [.int a3]) (rest := []) (n := 1) (q := (RX8, TX8, 23)) (ci := 8) (t := 30) (i := 0) ⟨hx, hb, hml, hown, hts⟩ (d_X8_well l E Z w52 a3 hs2) gX8_row_X8_well rfl hV_X8_well ⟨Nat.le_of_ble_eq_true rfl, Nat.le_of_ble_eq_true rfl⟩ hK hw (by decide) (by decide) rfl rfl rfl hl.1 rfl (Nat.le_of_ble_eq_true rfl) dX8_row_80 rfl rfl (fun r3 v4 H locs hp hw => ?_)
        have hF := hF.trans (kb2_some hp _)
        exact hret _ _ _ _ _ _ hw dX8_row_83 hF
      · skip
        have hF := hF.trans (if_neg c1)
        refine lv_aload_n hx hb dX8_row_59 rfl (lv_at hl 0 rfl) ?_
        refine km_get (ci := 8) (C := RX8) (T := TX8) (N := 23) (t := 30) (i := 0) hx hb hts fi_X8_row_X8 hown hK hw (by decide) (by decide) rfl rfl 2 (by decide) (hts (.fieldLink RX8 16 "WrongWordModel" "items" "[I") ow_X8_row_16) rfl dX8_row_60 ?_
        refine lv_bipush (v := 40) hx hb dX8_row_63 (by decide) ?_
        refine lv_iload_n hx hb dX8_row_65 rfl (lv_at hl 1 rfl) ?_
        refine lv_imul hx hb dX8_row_66 ?_
        refine lv_iload hx hb dX8_row_67 (lv_at hl 4 rfl) ?_
        refine lv_iadd hx hb dX8_row_69 ?_
        refine lv_iconst (v := 0) hx hb dX8_row_70 (by decide) ?_
        have hb5 : ¬ (((40 : Int32) * a1) + x4_52 < 0 ∨ 320 ≤ Int32.toNatClampNeg (((40 : Int32) * a1) + x4_52)) := fun q => hs (hF.trans (if_pos q))
        have hF := hF.trans (if_neg hb5)
        refine km_iast (t := 33) (i := 0) (n := 320) hx hb hK hw (by decide) (by decide) (fun _ => rfl) hb5 dX8_row_71 (fun H locs hw => ?_)
        obtain ⟨v6, ev6⟩ : ∃ z, z = up3 w52 33 0 (Int32.toNatClampNeg (((40 : Int32) * a1) + x4_52)) 0 := ⟨_, rfl⟩
        rw [← ev6] at hw
        have hF := hF.trans (kb_some (congrArg some ev6.symm) _)
        refine lv_iinc (v := x4_52 + 1) (lv' := [(4, .int (x4_52 + 1)), (0, .ref (Z.1 30 0)), (1, .int a1), (2, .int a2), (3, .int a3)]) hx hb dX8_row_72 hl (k := 4) rfl rfl (by decide) rfl (fun ls hl => ?_)
        refine lv_goto (tgt := 52) hx hb dX8_row_75 (by decide) ?_
        have hl := lv_sub (l' := [(0, .ref (Z.1 30 0)), (1, .int a1), (2, .int a2), (3, .int a3), (4, .int (x4_52 + 1))]) hl [1, 2, 3, 4, 0] rfl
        exact ih52 v6 (x4_52 + 1) _ _ _ hF hw hl
  refine lv_iload_n hx hb dX8_row_0 rfl (lv_at hl 1 rfl) ?_
  have hs7 : g_X8_isRow v a1 ≠ none := fun q => hs (hF.trans (kb_n q _))
  refine km_cS (As := [.int a1]) (rest := []) (n := 1) ⟨hx, hb, hml, hown, hts⟩ (d_X8_isRow l E Z v a1 hs7) gX8_row_X8_isRow rfl hV_X8_isRow ⟨Nat.le_of_ble_eq_true rfl, Nat.le_of_ble_eq_true rfl⟩ hK hw rfl hl.1 rfl (Nat.le_of_ble_eq_true rfl) dX8_row_1 rfl rfl (fun r8 v9 H locs hp hw => ?_)
  obtain ⟨hp, hzr8⟩ := hp
  obtain ⟨hp, rfl⟩ := hp
  have hF := hF.trans (kb_some hp _)
  refine lv_if_eq (tgt := 22) hx hb dX8_row_4 (by decide) (fun c10 => ?_) (fun c10 => ?_)
  · skip
    have hF := hF.trans (if_pos c10)
    refine lv_ldc (v := (-1000001)) hx hb hown (hts (.constant RX8 64 (-1000001)) ow_X8_row_64) dX8_row_22 ?_
    exact hret _ _ _ _ _ _ hw dX8_row_24 hF
  · skip
    have hF := hF.trans (if_neg c10)
    refine lv_iload_n hx hb dX8_row_7 rfl (lv_at hl 2 rfl) ?_
    refine lv_iconst (v := 0) hx hb dX8_row_8 (by decide) ?_
    refine lv_iconst (v := 2) hx hb dX8_row_9 (by decide) ?_
    have hs11 : g_X8_in v a2 0 2 ≠ none := fun q => hs (hF.trans (kb_n q _))
    refine km_cS (As := [.int a2, .int 0, .int 2]) (rest := []) (n := 3) ⟨hx, hb, hml, hown, hts⟩ (d_X8_in l E Z v a2 0 2 hs11) gX8_row_X8_in rfl hV_X8_in ⟨Nat.le_of_ble_eq_true rfl, Nat.le_of_ble_eq_true rfl⟩ hK hw rfl hl.1 rfl (Nat.le_of_ble_eq_true rfl) dX8_row_10 rfl rfl (fun r12 v13 H locs hp hw => ?_)
    obtain ⟨hp, hzr12⟩ := hp
    obtain ⟨hp, rfl⟩ := hp
    have hF := hF.trans (kb_some hp _)
    refine lv_if_eq (tgt := 22) hx hb dX8_row_13 (by decide) (fun c14 => ?_) (fun c14 => ?_)
    · skip
      have hF := hF.trans (if_pos c14)
      refine lv_ldc (v := (-1000001)) hx hb hown (hts (.constant RX8 64 (-1000001)) ow_X8_row_64) dX8_row_22 ?_
      exact hret _ _ _ _ _ _ hw dX8_row_24 hF
    · skip
      have hF := hF.trans (if_neg c14)
      refine lv_iload_n hx hb dX8_row_16 rfl (lv_at hl 3 rfl) ?_
      refine lv_bipush (v := 40) hx hb dX8_row_17 (by decide) ?_
      refine lv_icmp_le (tgt := 25) hx hb dX8_row_19 (by decide) (fun c15 => ?_) (fun c15 => ?_)
      · skip
        have hF := hF.trans (if_pos c15)
        refine lv_iload_n hx hb dX8_row_25 rfl (lv_at hl 3 rfl) ?_
        refine lv_if_ge (tgt := 35) hx hb dX8_row_26 (by decide) (fun c16 => ?_) (fun c16 => ?_)
        · skip
          have hF := hF.trans (if_pos c16)
          refine lv_aload_n hx hb dX8_row_35 rfl (lv_at hl 0 rfl) ?_
          refine km_get (ci := 8) (C := RX8) (T := TX8) (N := 23) (t := 30) (i := 0) hx hb hts fi_X8_row_X8 hown hK hw (by decide) (by decide) rfl rfl 0 (by decide) (hts (.fieldLink RX8 7 "WrongWordModel" "lane" "[I") ow_X8_row_7) rfl dX8_row_36 ?_
          refine lv_iload_n hx hb dX8_row_39 rfl (lv_at hl 1 rfl) ?_
          refine lv_iload_n hx hb dX8_row_40 rfl (lv_at hl 2 rfl) ?_
          have hb17 : ¬ (a1 < 0 ∨ 8 ≤ Int32.toNatClampNeg a1) := fun q => hs (hF.trans (if_pos q))
          have hF := hF.trans (if_neg hb17)
          refine km_iast (t := 31) (i := 0) (n := 8) hx hb hK hw (by decide) (by decide) (fun _ => rfl) hb17 dX8_row_41 (fun H locs hw => ?_)
          obtain ⟨v18, ev18⟩ : ∃ z, z = up3 v 31 0 (Int32.toNatClampNeg a1) a2 := ⟨_, rfl⟩
          rw [← ev18] at hw
          have hF := hF.trans (kb_some (congrArg some ev18.symm) _)
          refine lv_aload_n hx hb dX8_row_42 rfl (lv_at hl 0 rfl) ?_
          refine km_get (ci := 8) (C := RX8) (T := TX8) (N := 23) (t := 30) (i := 0) hx hb hts fi_X8_row_X8 hown hK hw (by decide) (by decide) rfl rfl 1 (by decide) (hts (.fieldLink RX8 13 "WrongWordModel" "many" "[I") ow_X8_row_13) rfl dX8_row_43 ?_
          refine lv_iload_n hx hb dX8_row_46 rfl (lv_at hl 1 rfl) ?_
          refine lv_iload_n hx hb dX8_row_47 rfl (lv_at hl 3 rfl) ?_
          have hb19 : ¬ (a1 < 0 ∨ 8 ≤ Int32.toNatClampNeg a1) := fun q => hs (hF.trans (if_pos q))
          have hF := hF.trans (if_neg hb19)
          refine km_iast (t := 32) (i := 0) (n := 8) hx hb hK hw (by decide) (by decide) (fun _ => rfl) hb19 dX8_row_48 (fun H locs hw => ?_)
          obtain ⟨v20, ev20⟩ : ∃ z, z = up3 v18 32 0 (Int32.toNatClampNeg a1) a3 := ⟨_, rfl⟩
          rw [← ev20] at hw
          have hF := hF.trans (kb_some (congrArg some ev20.symm) _)
          refine lv_iconst (v := 0) hx hb dX8_row_49 (by decide) ?_
          refine lv_istore (lv' := [(4, .int 0), (0, .ref (Z.1 30 0)), (1, .int a1), (2, .int a2), (3, .int a3)]) hx hb dX8_row_50 hl (by decide) rfl (fun ls hl => ?_)
          have hl := lv_sub (l' := [(0, .ref (Z.1 30 0)), (1, .int a1), (2, .int a2), (3, .int a3), (4, .int 0)]) hl [1, 2, 3, 4, 0] rfl
          exact loop52 2000 v20 0 _ _ _ hF hw hl
        · skip
          have hF := hF.trans (if_neg c16)
          refine lv_aload_n hx hb dX8_row_29 rfl (lv_at hl 0 rfl) ?_
          refine lv_iconst (v := 4) hx hb dX8_row_30 (by decide) ?_
          have hs21 : g_X8_found v 4 ≠ none := fun q => hs (hF.trans (kb2_n q _))
          refine km_cI (As := [.int 4]) (rest := []) (n := 1) (q := (RX8, TX8, 23)) (ci := 8) (t := 30) (i := 0) ⟨hx, hb, hml, hown, hts⟩ (d_X8_found l E Z v 4 hs21) gX8_row_X8_found rfl hV_X8_found ⟨Nat.le_of_ble_eq_true rfl, Nat.le_of_ble_eq_true rfl⟩ hK hw (by decide) (by decide) rfl rfl rfl hl.1 rfl (Nat.le_of_ble_eq_true rfl) dX8_row_31 rfl rfl (fun r22 v23 H locs hp hw => ?_)
          have hF := hF.trans (kb2_some hp _)
          exact hret _ _ _ _ _ _ hw dX8_row_34 hF
      · skip
        have hF := hF.trans (if_neg c15)
        refine lv_ldc (v := (-1000001)) hx hb hown (hts (.constant RX8 64 (-1000001)) ow_X8_row_64) dX8_row_22 ?_
        exact hret _ _ _ _ _ _ hw dX8_row_24 hF
abbrev rmX8_set : Room := { frames := 2, cells := 0, slots := 0, locals := 42 }
def g_X8_set (v : Mm) (a1 : Int32) (a2 : Int32) (a3 : Int32) : Option (Int32 × Mm) := Option.bind (g_X8_isRow v a1) (fun r2 => if r2 = 0 then (some ((-1000001), v)) else (Option.bind (g_X8_isMissing v a1) (fun r6 => if r6 = 0 then (if a1 < 0 ∨ 8 ≤ Int32.toNatClampNeg a1 then none else (Option.bind (g_X8_in v a2 0 ((v 32 0 (Int32.toNatClampNeg a1)) - 1)) (fun r11 => if r11 = 0 then (kb2 (g_X8_found v 2) (fun r25 v26 => some (r25, v26))) else (if a1 < 0 ∨ 8 ≤ Int32.toNatClampNeg a1 then none else (Option.bind (g_X8_cut v (v 31 0 (Int32.toNatClampNeg a1)) a3) (fun r16 => if ((40 : Int32) * a1) + a2 < 0 ∨ 320 ≤ Int32.toNatClampNeg (((40 : Int32) * a1) + a2) then none else (Option.bind (some (up3 v 33 0 (Int32.toNatClampNeg (((40 : Int32) * a1) + a2)) r16)) (fun v19 => if ((40 : Int32) * a1) + a2 < 0 ∨ 320 ≤ Int32.toNatClampNeg (((40 : Int32) * a1) + a2) then none else (kb2 (g_X8_well v19 (v19 33 0 (Int32.toNatClampNeg (((40 : Int32) * a1) + a2)))) (fun r22 v23 => some (r22, v23))))))))))) else (kb2 (g_X8_found v 1) (fun r28 v29 => some (r28, v29))))))
set_option maxHeartbeats 4000000 in
set_option maxRecDepth 100000 in
theorem d_X8_set (l : Launch) (E : kq_T) (Z : km_Z) (v : Mm) (a1 : Int32) (a2 : Int32) (a3 : Int32) (hs : g_X8_set v a1 a2 a3 ≠ none) : km_I l E Z cntM yX8_set wsX8_set rmX8_set [.ref (Z.1 30 0), .int a1, .int a2, .int a3] v (fun r v1 => g_X8_set v a1 a2 a3 = some (r, v1)) := by
  refine km_goI (cc := cX8_set) (maxL := 4) (by decide) rfl (Nat.le_of_ble_eq_true rfl) rfl rfl rfl ?_
  intro p e s m below meth c A ls Q C hK hw hl hret
  obtain ⟨hx, hb, hml, hown, hts, -, -, -⟩ := C
  have hown : s.vm.findClass RX8 = some m.cls := hown
  have hl : lv_has ls 4 [(0, .ref (Z.1 30 0)), (1, .int a1), (2, .int a2), (3, .int a3)] := hl
  have hF := g_X8_set.eq_1 v a1 a2 a3
  refine lv_iload_n hx hb dX8_set_0 rfl (lv_at hl 1 rfl) ?_
  have hs1 : g_X8_isRow v a1 ≠ none := fun q => hs (hF.trans (kb_n q _))
  refine km_cS (As := [.int a1]) (rest := []) (n := 1) ⟨hx, hb, hml, hown, hts⟩ (d_X8_isRow l E Z v a1 hs1) gX8_set_X8_isRow rfl hV_X8_isRow ⟨Nat.le_of_ble_eq_true rfl, Nat.le_of_ble_eq_true rfl⟩ hK hw rfl hl.1 rfl (Nat.le_of_ble_eq_true rfl) dX8_set_1 rfl rfl (fun r2 v3 H locs hp hw => ?_)
  obtain ⟨hp, hzr2⟩ := hp
  obtain ⟨hp, rfl⟩ := hp
  have hF := hF.trans (kb_some hp _)
  refine lv_if_ne (tgt := 10) hx hb dX8_set_4 (by decide) (fun c4 => ?_) (fun c4 => ?_)
  · skip
    have hF := hF.trans (if_neg c4)
    refine lv_aload_n hx hb dX8_set_10 rfl (lv_at hl 0 rfl) ?_
    refine lv_iload_n hx hb dX8_set_11 rfl (lv_at hl 1 rfl) ?_
    have hs5 : g_X8_isMissing v a1 ≠ none := fun q => hs (hF.trans (kb_n q _))
    refine km_cI (As := [.int a1]) (rest := []) (n := 1) (q := (RX8, TX8, 23)) (ci := 8) (t := 30) (i := 0) ⟨hx, hb, hml, hown, hts⟩ (d_X8_isMissing l E Z v a1 hs5) gX8_set_X8_isMissing rfl hV_X8_isMissing ⟨Nat.le_of_ble_eq_true rfl, Nat.le_of_ble_eq_true rfl⟩ hK hw (by decide) (by decide) rfl rfl rfl hl.1 rfl (Nat.le_of_ble_eq_true rfl) dX8_set_12 rfl rfl (fun r6 v7 H locs hp hw => ?_)
    obtain ⟨hp, hzr6⟩ := hp
    obtain ⟨hp, rfl⟩ := hp
    have hF := hF.trans (kb_some hp _)
    refine lv_if_eq (tgt := 24) hx hb dX8_set_15 (by decide) (fun c8 => ?_) (fun c8 => ?_)
    · skip
      have hF := hF.trans (if_pos c8)
      refine lv_iload_n hx hb dX8_set_24 rfl (lv_at hl 2 rfl) ?_
      refine lv_iconst (v := 0) hx hb dX8_set_25 (by decide) ?_
      refine lv_aload_n hx hb dX8_set_26 rfl (lv_at hl 0 rfl) ?_
      refine km_get (ci := 8) (C := RX8) (T := TX8) (N := 23) (t := 30) (i := 0) hx hb hts fi_X8_set_X8 hown hK hw (by decide) (by decide) rfl rfl 1 (by decide) (hts (.fieldLink RX8 13 "WrongWordModel" "many" "[I") ow_X8_set_13) rfl dX8_set_27 ?_
      refine lv_iload_n hx hb dX8_set_30 rfl (lv_at hl 1 rfl) ?_
      have hb9 : ¬ (a1 < 0 ∨ 8 ≤ Int32.toNatClampNeg a1) := fun q => hs (hF.trans (if_pos q))
      have hF := hF.trans (if_neg hb9)
      refine km_iald (t := 32) (i := 0) hx hb hK hw (by decide) (by decide) rfl hb9 dX8_set_31 ?_
      refine lv_iconst (v := 1) hx hb dX8_set_32 (by decide) ?_
      refine lv_isub hx hb dX8_set_33 ?_
      have hs10 : g_X8_in v a2 0 ((v 32 0 (Int32.toNatClampNeg a1)) - 1) ≠ none := fun q => hs (hF.trans (kb_n q _))
      refine km_cS (As := [.int a2, .int 0, .int ((v 32 0 (Int32.toNatClampNeg a1)) - 1)]) (rest := []) (n := 3) ⟨hx, hb, hml, hown, hts⟩ (d_X8_in l E Z v a2 0 ((v 32 0 (Int32.toNatClampNeg a1)) - 1) hs10) gX8_set_X8_in rfl hV_X8_in ⟨Nat.le_of_ble_eq_true rfl, Nat.le_of_ble_eq_true rfl⟩ hK hw rfl hl.1 rfl (Nat.le_of_ble_eq_true rfl) dX8_set_34 rfl rfl (fun r11 v12 H locs hp hw => ?_)
      obtain ⟨hp, hzr11⟩ := hp
      obtain ⟨hp, rfl⟩ := hp
      have hF := hF.trans (kb_some hp _)
      refine lv_if_ne (tgt := 46) hx hb dX8_set_37 (by decide) (fun c13 => ?_) (fun c13 => ?_)
      · skip
        have hF := hF.trans (if_neg c13)
        refine lv_aload_n hx hb dX8_set_46 rfl (lv_at hl 0 rfl) ?_
        refine km_get (ci := 8) (C := RX8) (T := TX8) (N := 23) (t := 30) (i := 0) hx hb hts fi_X8_set_X8 hown hK hw (by decide) (by decide) rfl rfl 2 (by decide) (hts (.fieldLink RX8 16 "WrongWordModel" "items" "[I") ow_X8_set_16) rfl dX8_set_47 ?_
        refine lv_bipush (v := 40) hx hb dX8_set_50 (by decide) ?_
        refine lv_iload_n hx hb dX8_set_52 rfl (lv_at hl 1 rfl) ?_
        refine lv_imul hx hb dX8_set_53 ?_
        refine lv_iload_n hx hb dX8_set_54 rfl (lv_at hl 2 rfl) ?_
        refine lv_iadd hx hb dX8_set_55 ?_
        refine lv_aload_n hx hb dX8_set_56 rfl (lv_at hl 0 rfl) ?_
        refine km_get (ci := 8) (C := RX8) (T := TX8) (N := 23) (t := 30) (i := 0) hx hb hts fi_X8_set_X8 hown hK hw (by decide) (by decide) rfl rfl 0 (by decide) (hts (.fieldLink RX8 7 "WrongWordModel" "lane" "[I") ow_X8_set_7) rfl dX8_set_57 ?_
        refine lv_iload_n hx hb dX8_set_60 rfl (lv_at hl 1 rfl) ?_
        have hb14 : ¬ (a1 < 0 ∨ 8 ≤ Int32.toNatClampNeg a1) := fun q => hs (hF.trans (if_pos q))
        have hF := hF.trans (if_neg hb14)
        refine km_iald (t := 31) (i := 0) hx hb hK hw (by decide) (by decide) rfl hb14 dX8_set_61 ?_
        refine lv_iload_n hx hb dX8_set_62 rfl (lv_at hl 3 rfl) ?_
        have hs15 : g_X8_cut v (v 31 0 (Int32.toNatClampNeg a1)) a3 ≠ none := fun q => hs (hF.trans (kb_n q _))
        refine km_cS (As := [.int (v 31 0 (Int32.toNatClampNeg a1)), .int a3]) (rest := [.int (((40 : Int32) * a1) + a2), .ref (Z.1 33 0)]) (n := 2) ⟨hx, hb, hml, hown, hts⟩ (d_X8_cut l E Z v (v 31 0 (Int32.toNatClampNeg a1)) a3 hs15) gX8_set_X8_cut rfl hV_X8_cut ⟨Nat.le_of_ble_eq_true rfl, Nat.le_of_ble_eq_true rfl⟩ hK hw rfl hl.1 rfl (Nat.le_of_ble_eq_true rfl) dX8_set_63 rfl rfl (fun r16 v17 H locs hp hw => ?_)
        obtain ⟨hp, rfl⟩ := hp
        have hF := hF.trans (kb_some hp _)
        have hb18 : ¬ (((40 : Int32) * a1) + a2 < 0 ∨ 320 ≤ Int32.toNatClampNeg (((40 : Int32) * a1) + a2)) := fun q => hs (hF.trans (if_pos q))
        have hF := hF.trans (if_neg hb18)
        refine km_iast (t := 33) (i := 0) (n := 320) hx hb hK hw (by decide) (by decide) (fun _ => rfl) hb18 dX8_set_66 (fun H locs hw => ?_)
        obtain ⟨v19, ev19⟩ : ∃ z, z = up3 v 33 0 (Int32.toNatClampNeg (((40 : Int32) * a1) + a2)) r16 := ⟨_, rfl⟩
        rw [← ev19] at hw
        have hF := hF.trans (kb_some (congrArg some ev19.symm) _)
        refine lv_aload_n hx hb dX8_set_67 rfl (lv_at hl 0 rfl) ?_
        refine lv_aload_n hx hb dX8_set_68 rfl (lv_at hl 0 rfl) ?_
        refine km_get (ci := 8) (C := RX8) (T := TX8) (N := 23) (t := 30) (i := 0) hx hb hts fi_X8_set_X8 hown hK hw (by decide) (by decide) rfl rfl 2 (by decide) (hts (.fieldLink RX8 16 "WrongWordModel" "items" "[I") ow_X8_set_16) rfl dX8_set_69 ?_
        refine lv_bipush (v := 40) hx hb dX8_set_72 (by decide) ?_
        refine lv_iload_n hx hb dX8_set_74 rfl (lv_at hl 1 rfl) ?_
        refine lv_imul hx hb dX8_set_75 ?_
        refine lv_iload_n hx hb dX8_set_76 rfl (lv_at hl 2 rfl) ?_
        refine lv_iadd hx hb dX8_set_77 ?_
        have hb20 : ¬ (((40 : Int32) * a1) + a2 < 0 ∨ 320 ≤ Int32.toNatClampNeg (((40 : Int32) * a1) + a2)) := fun q => hs (hF.trans (if_pos q))
        have hF := hF.trans (if_neg hb20)
        refine km_iald (t := 33) (i := 0) hx hb hK hw (by decide) (by decide) rfl hb20 dX8_set_78 ?_
        have hs21 : g_X8_well v19 (v19 33 0 (Int32.toNatClampNeg (((40 : Int32) * a1) + a2))) ≠ none := fun q => hs (hF.trans (kb2_n q _))
        refine km_cI (As := [.int (v19 33 0 (Int32.toNatClampNeg (((40 : Int32) * a1) + a2)))]) (rest := []) (n := 1) (q := (RX8, TX8, 23)) (ci := 8) (t := 30) (i := 0) ⟨hx, hb, hml, hown, hts⟩ (d_X8_well l E Z v19 (v19 33 0 (Int32.toNatClampNeg (((40 : Int32) * a1) + a2))) hs21) gX8_set_X8_well rfl hV_X8_well ⟨Nat.le_of_ble_eq_true rfl, Nat.le_of_ble_eq_true rfl⟩ hK hw (by decide) (by decide) rfl rfl rfl hl.1 rfl (Nat.le_of_ble_eq_true rfl) dX8_set_79 rfl rfl (fun r22 v23 H locs hp hw => ?_)
        have hF := hF.trans (kb2_some hp _)
        exact hret _ _ _ _ _ _ hw dX8_set_82 hF
      · skip
        have hF := hF.trans (if_pos c13)
        refine lv_aload_n hx hb dX8_set_40 rfl (lv_at hl 0 rfl) ?_
        refine lv_iconst (v := 2) hx hb dX8_set_41 (by decide) ?_
        have hs24 : g_X8_found v 2 ≠ none := fun q => hs (hF.trans (kb2_n q _))
        refine km_cI (As := [.int 2]) (rest := []) (n := 1) (q := (RX8, TX8, 23)) (ci := 8) (t := 30) (i := 0) ⟨hx, hb, hml, hown, hts⟩ (d_X8_found l E Z v 2 hs24) gX8_set_X8_found rfl hV_X8_found ⟨Nat.le_of_ble_eq_true rfl, Nat.le_of_ble_eq_true rfl⟩ hK hw (by decide) (by decide) rfl rfl rfl hl.1 rfl (Nat.le_of_ble_eq_true rfl) dX8_set_42 rfl rfl (fun r25 v26 H locs hp hw => ?_)
        have hF := hF.trans (kb2_some hp _)
        exact hret _ _ _ _ _ _ hw dX8_set_45 hF
    · skip
      have hF := hF.trans (if_neg c8)
      refine lv_aload_n hx hb dX8_set_18 rfl (lv_at hl 0 rfl) ?_
      refine lv_iconst (v := 1) hx hb dX8_set_19 (by decide) ?_
      have hs27 : g_X8_found v 1 ≠ none := fun q => hs (hF.trans (kb2_n q _))
      refine km_cI (As := [.int 1]) (rest := []) (n := 1) (q := (RX8, TX8, 23)) (ci := 8) (t := 30) (i := 0) ⟨hx, hb, hml, hown, hts⟩ (d_X8_found l E Z v 1 hs27) gX8_set_X8_found rfl hV_X8_found ⟨Nat.le_of_ble_eq_true rfl, Nat.le_of_ble_eq_true rfl⟩ hK hw (by decide) (by decide) rfl rfl rfl hl.1 rfl (Nat.le_of_ble_eq_true rfl) dX8_set_20 rfl rfl (fun r28 v29 H locs hp hw => ?_)
      have hF := hF.trans (kb2_some hp _)
      exact hret _ _ _ _ _ _ hw dX8_set_23 hF
  · skip
    have hF := hF.trans (if_pos c4)
    refine lv_ldc (v := (-1000001)) hx hb hown (hts (.constant RX8 64 (-1000001)) ow_X8_set_64) dX8_set_7 ?_
    exact hret _ _ _ _ _ _ hw dX8_set_9 hF
abbrev rmX8_isPart : Room := { frames := 0, cells := 0, slots := 0, locals := 0 }
def g_X8_isPart (v : Mm) (a1 : Int32) (a2 : Int32) (a3 : Int32) : Option (Int32) := if a2 < 0 then (some 0) else (if a3 < 0 then (some 0) else (if a1 < 0 ∨ 8 ≤ Int32.toNatClampNeg a1 then none else (if v 32 0 (Int32.toNatClampNeg a1) < a2 then (some 0) else (if a1 < 0 ∨ 8 ≤ Int32.toNatClampNeg a1 then none else (if (v 32 0 (Int32.toNatClampNeg a1)) - a2 < a3 then (some 0) else (some 1))))))
set_option maxHeartbeats 4000000 in
set_option maxRecDepth 100000 in
theorem d_X8_isPart (l : Launch) (E : kq_T) (Z : km_Z) (v : Mm) (a1 : Int32) (a2 : Int32) (a3 : Int32) (hs : g_X8_isPart v a1 a2 a3 ≠ none) : km_I l E Z cntM yX8_isPart wsX8_isPart rmX8_isPart [.ref (Z.1 30 0), .int a1, .int a2, .int a3] v (fun r v1 => (g_X8_isPart v a1 a2 a3 = some r ∧ v = v1) ∧ (r = 0 ∨ r = 1)) := by
  refine km_goZ (cc := cX8_isPart) (maxL := 4) (post := fun r v1 => g_X8_isPart v a1 a2 a3 = some r ∧ v = v1) (by decide) rfl (Nat.le_of_ble_eq_true rfl) rfl rfl rfl ?_
  intro p e s m below meth c A ls Q C hK hw hl hret
  obtain ⟨hx, hb, hml, hown, hts, -, -, -⟩ := C
  have hown : s.vm.findClass RX8 = some m.cls := hown
  have hl : lv_has ls 4 [(0, .ref (Z.1 30 0)), (1, .int a1), (2, .int a2), (3, .int a3)] := hl
  have hF := g_X8_isPart.eq_1 v a1 a2 a3
  refine lv_iload_n hx hb dX8_isPart_0 rfl (lv_at hl 2 rfl) ?_
  refine lv_if_lt (tgt := 34) hx hb dX8_isPart_1 (by decide) (fun c1 => ?_) (fun c1 => ?_)
  · skip
    have hF := hF.trans (if_pos c1)
    refine lv_iconst (v := 0) hx hb dX8_isPart_34 (by decide) ?_
    exact hret _ _ _ _ _ _ hw dX8_isPart_35 (Or.inl rfl) ⟨hF, rfl⟩
  · skip
    have hF := hF.trans (if_neg c1)
    refine lv_iload_n hx hb dX8_isPart_4 rfl (lv_at hl 3 rfl) ?_
    refine lv_if_lt (tgt := 34) hx hb dX8_isPart_5 (by decide) (fun c2 => ?_) (fun c2 => ?_)
    · skip
      have hF := hF.trans (if_pos c2)
      refine lv_iconst (v := 0) hx hb dX8_isPart_34 (by decide) ?_
      exact hret _ _ _ _ _ _ hw dX8_isPart_35 (Or.inl rfl) ⟨hF, rfl⟩
    · skip
      have hF := hF.trans (if_neg c2)
      refine lv_iload_n hx hb dX8_isPart_8 rfl (lv_at hl 2 rfl) ?_
      refine lv_aload_n hx hb dX8_isPart_9 rfl (lv_at hl 0 rfl) ?_
      refine km_get (ci := 8) (C := RX8) (T := TX8) (N := 23) (t := 30) (i := 0) hx hb hts fi_X8_isPart_X8 hown hK hw (by decide) (by decide) rfl rfl 1 (by decide) (hts (.fieldLink RX8 13 "WrongWordModel" "many" "[I") ow_X8_isPart_13) rfl dX8_isPart_10 ?_
      refine lv_iload_n hx hb dX8_isPart_13 rfl (lv_at hl 1 rfl) ?_
      have hb3 : ¬ (a1 < 0 ∨ 8 ≤ Int32.toNatClampNeg a1) := fun q => hs (hF.trans (if_pos q))
      have hF := hF.trans (if_neg hb3)
      refine km_iald (t := 32) (i := 0) hx hb hK hw (by decide) (by decide) rfl hb3 dX8_isPart_14 ?_
      refine lv_icmp_gt (tgt := 34) hx hb dX8_isPart_15 (by decide) (fun c4 => ?_) (fun c4 => ?_)
      · skip
        have hF := hF.trans (if_pos c4)
        refine lv_iconst (v := 0) hx hb dX8_isPart_34 (by decide) ?_
        exact hret _ _ _ _ _ _ hw dX8_isPart_35 (Or.inl rfl) ⟨hF, rfl⟩
      · skip
        have hF := hF.trans (if_neg c4)
        refine lv_iload_n hx hb dX8_isPart_18 rfl (lv_at hl 3 rfl) ?_
        refine lv_aload_n hx hb dX8_isPart_19 rfl (lv_at hl 0 rfl) ?_
        refine km_get (ci := 8) (C := RX8) (T := TX8) (N := 23) (t := 30) (i := 0) hx hb hts fi_X8_isPart_X8 hown hK hw (by decide) (by decide) rfl rfl 1 (by decide) (hts (.fieldLink RX8 13 "WrongWordModel" "many" "[I") ow_X8_isPart_13) rfl dX8_isPart_20 ?_
        refine lv_iload_n hx hb dX8_isPart_23 rfl (lv_at hl 1 rfl) ?_
        have hb5 : ¬ (a1 < 0 ∨ 8 ≤ Int32.toNatClampNeg a1) := fun q => hs (hF.trans (if_pos q))
        have hF := hF.trans (if_neg hb5)
        refine km_iald (t := 32) (i := 0) hx hb hK hw (by decide) (by decide) rfl hb5 dX8_isPart_24 ?_
        refine lv_iload_n hx hb dX8_isPart_25 rfl (lv_at hl 2 rfl) ?_
        refine lv_isub hx hb dX8_isPart_26 ?_
        refine lv_icmp_gt (tgt := 34) hx hb dX8_isPart_27 (by decide) (fun c6 => ?_) (fun c6 => ?_)
        · skip
          have hF := hF.trans (if_pos c6)
          refine lv_iconst (v := 0) hx hb dX8_isPart_34 (by decide) ?_
          exact hret _ _ _ _ _ _ hw dX8_isPart_35 (Or.inl rfl) ⟨hF, rfl⟩
        · skip
          have hF := hF.trans (if_neg c6)
          refine lv_iconst (v := 1) hx hb dX8_isPart_30 (by decide) ?_
          refine lv_goto (tgt := 35) hx hb dX8_isPart_31 (by decide) ?_
          exact hret _ _ _ _ _ _ hw dX8_isPart_35 (Or.inr rfl) ⟨hF, rfl⟩
abbrev rmX8_copy : Room := { frames := 2, cells := 0, slots := 0, locals := 42 }
def b_X8_copy_L129  (rec129 : Mm → Int32 → Option (Int32 × Mm)) (a1 : Int32) (a2 : Int32) (a3 : Int32) (a4 : Int32) (a5 : Int32) (w129 : Mm) (x6_129 : Int32) : Option (Int32 × Mm) := if a5 ≤ x6_129 then (kb2 (g_X8_well w129 a5) (fun r37 v38 => some (r37, v38))) else (if x6_129 < 0 ∨ 40 ≤ Int32.toNatClampNeg x6_129 then none else (if (((40 : Int32) * a3) + a4) + x6_129 < 0 ∨ 320 ≤ Int32.toNatClampNeg ((((40 : Int32) * a3) + a4) + x6_129) then none else (Option.bind (some (up3 w129 33 0 (Int32.toNatClampNeg ((((40 : Int32) * a3) + a4) + x6_129)) (w129 34 0 (Int32.toNatClampNeg x6_129)))) (fun v41 => rec129 v41 (x6_129 + 1)))))
def g_X8_copy_L129  (a1 : Int32) (a2 : Int32) (a3 : Int32) (a4 : Int32) (a5 : Int32) : Nat → Mm → Int32 → Option (Int32 × Mm)
  | 0 => fun _ _ => none
  | n + 1 => b_X8_copy_L129  (g_X8_copy_L129  a1 a2 a3 a4 a5 n) a1 a2 a3 a4 a5
def b_X8_copy_L92  (rec92 : Mm → Int32 → Option (Int32 × Mm)) (a1 : Int32) (a2 : Int32) (a3 : Int32) (a4 : Int32) (a5 : Int32) (w92 : Mm) (x6_92 : Int32) : Option (Int32 × Mm) := if a5 ≤ x6_92 then (g_X8_copy_L129  a1 a2 a3 a4 a5 2000 w92 0) else (if (((40 : Int32) * a1) + a2) + x6_92 < 0 ∨ 320 ≤ Int32.toNatClampNeg ((((40 : Int32) * a1) + a2) + x6_92) then none else (if x6_92 < 0 ∨ 40 ≤ Int32.toNatClampNeg x6_92 then none else (Option.bind (some (up3 w92 34 0 (Int32.toNatClampNeg x6_92) (w92 33 0 (Int32.toNatClampNeg ((((40 : Int32) * a1) + a2) + x6_92))))) (fun v37 => rec92 v37 (x6_92 + 1)))))
def g_X8_copy_L92  (a1 : Int32) (a2 : Int32) (a3 : Int32) (a4 : Int32) (a5 : Int32) : Nat → Mm → Int32 → Option (Int32 × Mm)
  | 0 => fun _ _ => none
  | n + 1 => b_X8_copy_L92  (g_X8_copy_L92  a1 a2 a3 a4 a5 n) a1 a2 a3 a4 a5
def g_X8_copy (v : Mm) (a1 : Int32) (a2 : Int32) (a3 : Int32) (a4 : Int32) (a5 : Int32) : Option (Int32 × Mm) := Option.bind (g_X8_isRow v a1) (fun r2 => if r2 = 0 then (some ((-1000001), v)) else (Option.bind (g_X8_isRow v a3) (fun r6 => if r6 = 0 then (some ((-1000001), v)) else (Option.bind (g_X8_isMissing v a1) (fun r10 => if r10 = 0 then (Option.bind (g_X8_isMissing v a3) (fun r17 => if r17 = 0 then (if a1 < 0 ∨ 8 ≤ Int32.toNatClampNeg a1 then none else (if a3 < 0 ∨ 8 ≤ Int32.toNatClampNeg a3 then none else (if v 31 0 (Int32.toNatClampNeg a1) = v 31 0 (Int32.toNatClampNeg a3) then (Option.bind (g_X8_isPart v a1 a2 a5) (fun r24 => if r24 = 0 then (kb2 (g_X8_found v 2) (fun r28 v29 => some (r28, v29))) else (Option.bind (g_X8_isPart v a3 a4 a5) (fun r31 => if r31 = 0 then (kb2 (g_X8_found v 2) (fun r35 v36 => some (r35, v36))) else (g_X8_copy_L92  a1 a2 a3 a4 a5 2000 v 0))))) else (kb2 (g_X8_found v 5) (fun r38 v39 => some (r38, v39)))))) else (kb2 (g_X8_found v 1) (fun r41 v42 => some (r41, v42))))) else (kb2 (g_X8_found v 1) (fun r14 v15 => some (r14, v15))))))))
set_option maxHeartbeats 4000000 in
set_option maxRecDepth 100000 in
theorem d_X8_copy (l : Launch) (E : kq_T) (Z : km_Z) (v : Mm) (a1 : Int32) (a2 : Int32) (a3 : Int32) (a4 : Int32) (a5 : Int32) (hs : g_X8_copy v a1 a2 a3 a4 a5 ≠ none) : km_I l E Z cntM yX8_copy wsX8_copy rmX8_copy [.ref (Z.1 30 0), .int a1, .int a2, .int a3, .int a4, .int a5] v (fun r v1 => g_X8_copy v a1 a2 a3 a4 a5 = some (r, v1)) := by
  refine km_goI (cc := cX8_copy) (maxL := 7) (by decide) rfl (Nat.le_of_ble_eq_true rfl) rfl rfl rfl ?_
  intro p e s m below meth c A ls Q C hK hw hl hret
  obtain ⟨hx, hb, hml, hown, hts, -, -, -⟩ := C
  have hown : s.vm.findClass RX8 = some m.cls := hown
  have hl : lv_has ls 7 [(0, .ref (Z.1 30 0)), (1, .int a1), (2, .int a2), (3, .int a3), (4, .int a4), (5, .int a5)] := hl
  have hF := g_X8_copy.eq_1 v a1 a2 a3 a4 a5
  have loop129 : ∀ (n129 : Nat) (w129 : Mm) (x6_129 : Int32) (H : Heap) (locs : List Loc) (ls : Array Slot), g_X8_copy v a1 a2 a3 a4 a5 = g_X8_copy_L129  a1 a2 a3 a4 a5 n129 w129 x6_129 → km_w E A s.heap [] Z cntM w129 H locs → lv_has ls 7 [(0, .ref (Z.1 30 0)), (1, .int a1), (2, .int a2), (3, .int a3), (4, .int a4), (5, .int a5), (6, .int x6_129)] → W p l e rmX8_copy s m [.ref (Z.1 30 0), .int a1, .int a2, .int a3, .int a4, .int a5].toArray below meth c H locs 0 0 Q (F0 m 129 ls []) := by
    intro n129
    induction n129 with
    | zero => intro w129 x6_129 H locs ls hF hw hl; exact absurd (show g_X8_copy v a1 a2 a3 a4 a5 = none from hF) hs
    | succ n129 ih129 =>
      intro w129 x6_129 H locs ls hF hw hl
      have hF := hF.trans (b_X8_copy_L129.eq_1  (g_X8_copy_L129  a1 a2 a3 a4 a5 n129) a1 a2 a3 a4 a5 w129 x6_129)
      refine lv_iload hx hb dX8_copy_129 (lv_at hl 6 rfl) ?_
      refine lv_iload hx hb dX8_copy_131 (lv_at hl 5 rfl) ?_
      refine lv_icmp_ge (tgt := 164) hx hb dX8_copy_133 (by decide) (fun c1 => ?_) (fun c1 => ?_)
      · skip
        have hF := hF.trans (if_pos c1)
        refine lv_aload_n hx hb dX8_copy_164 rfl (lv_at hl 0 rfl) ?_
        refine lv_iload hx hb dX8_copy_165 (lv_at hl 5 rfl) ?_
        have hs2 : g_X8_well w129 a5 ≠ none := fun q => hs (hF.trans (kb2_n q _))
        refine km_cI (As := [.int a5]) (rest := []) (n := 1) (q := (RX8, TX8, 23)) (ci := 8) (t := 30) (i := 0) ⟨hx, hb, hml, hown, hts⟩ (d_X8_well l E Z w129 a5 hs2) gX8_copy_X8_well rfl hV_X8_well ⟨Nat.le_of_ble_eq_true rfl, Nat.le_of_ble_eq_true rfl⟩ hK hw (by decide) (by decide) rfl rfl rfl hl.1 rfl (Nat.le_of_ble_eq_true rfl) dX8_copy_167 rfl rfl (fun r3 v4 H locs hp hw => ?_)
        have hF := hF.trans (kb2_some hp _)
        exact hret _ _ _ _ _ _ hw dX8_copy_170 hF
      · skip
        have hF := hF.trans (if_neg c1)
        refine lv_aload_n hx hb dX8_copy_136 rfl (lv_at hl 0 rfl) ?_
        refine km_get (ci := 8) (C := RX8) (T := TX8) (N := 23) (t := 30) (i := 0) hx hb hts fi_X8_copy_X8 hown hK hw (by decide) (by decide) rfl rfl 2 (by decide) (hts (.fieldLink RX8 16 "WrongWordModel" "items" "[I") ow_X8_copy_16) rfl dX8_copy_137 ?_
        refine lv_bipush (v := 40) hx hb dX8_copy_140 (by decide) ?_
        refine lv_iload_n hx hb dX8_copy_142 rfl (lv_at hl 3 rfl) ?_
        refine lv_imul hx hb dX8_copy_143 ?_
        refine lv_iload hx hb dX8_copy_144 (lv_at hl 4 rfl) ?_
        refine lv_iadd hx hb dX8_copy_146 ?_
        refine lv_iload hx hb dX8_copy_147 (lv_at hl 6 rfl) ?_
        refine lv_iadd hx hb dX8_copy_149 ?_
        refine lv_aload_n hx hb dX8_copy_150 rfl (lv_at hl 0 rfl) ?_
        refine km_get (ci := 8) (C := RX8) (T := TX8) (N := 23) (t := 30) (i := 0) hx hb hts fi_X8_copy_X8 hown hK hw (by decide) (by decide) rfl rfl 3 (by decide) (hts (.fieldLink RX8 19 "WrongWordModel" "spare" "[I") ow_X8_copy_19) rfl dX8_copy_151 ?_
        refine lv_iload hx hb dX8_copy_154 (lv_at hl 6 rfl) ?_
        have hb5 : ¬ (x6_129 < 0 ∨ 40 ≤ Int32.toNatClampNeg x6_129) := fun q => hs (hF.trans (if_pos q))
        have hF := hF.trans (if_neg hb5)
        refine km_iald (t := 34) (i := 0) hx hb hK hw (by decide) (by decide) rfl hb5 dX8_copy_156 ?_
        have hb6 : ¬ ((((40 : Int32) * a3) + a4) + x6_129 < 0 ∨ 320 ≤ Int32.toNatClampNeg ((((40 : Int32) * a3) + a4) + x6_129)) := fun q => hs (hF.trans (if_pos q))
        have hF := hF.trans (if_neg hb6)
        refine km_iast (t := 33) (i := 0) (n := 320) hx hb hK hw (by decide) (by decide) (fun _ => rfl) hb6 dX8_copy_157 (fun H locs hw => ?_)
        obtain ⟨v7, ev7⟩ : ∃ z, z = up3 w129 33 0 (Int32.toNatClampNeg ((((40 : Int32) * a3) + a4) + x6_129)) (w129 34 0 (Int32.toNatClampNeg x6_129)) := ⟨_, rfl⟩
        rw [← ev7] at hw
        have hF := hF.trans (kb_some (congrArg some ev7.symm) _)
        refine lv_iinc (v := x6_129 + 1) (lv' := [(6, .int (x6_129 + 1)), (0, .ref (Z.1 30 0)), (1, .int a1), (2, .int a2), (3, .int a3), (4, .int a4), (5, .int a5)]) hx hb dX8_copy_158 hl (k := 6) rfl rfl (by decide) rfl (fun ls hl => ?_)
        refine lv_goto (tgt := 129) hx hb dX8_copy_161 (by decide) ?_
        have hl := lv_sub (l' := [(0, .ref (Z.1 30 0)), (1, .int a1), (2, .int a2), (3, .int a3), (4, .int a4), (5, .int a5), (6, .int (x6_129 + 1))]) hl [1, 2, 3, 4, 5, 6, 0] rfl
        exact ih129 v7 (x6_129 + 1) _ _ _ hF hw hl
  have loop92 : ∀ (n92 : Nat) (w92 : Mm) (x6_92 : Int32) (H : Heap) (locs : List Loc) (ls : Array Slot), g_X8_copy v a1 a2 a3 a4 a5 = g_X8_copy_L92  a1 a2 a3 a4 a5 n92 w92 x6_92 → km_w E A s.heap [] Z cntM w92 H locs → lv_has ls 7 [(0, .ref (Z.1 30 0)), (1, .int a1), (2, .int a2), (3, .int a3), (4, .int a4), (5, .int a5), (6, .int x6_92)] → W p l e rmX8_copy s m [.ref (Z.1 30 0), .int a1, .int a2, .int a3, .int a4, .int a5].toArray below meth c H locs 0 0 Q (F0 m 92 ls []) := by
    intro n92
    induction n92 with
    | zero => intro w92 x6_92 H locs ls hF hw hl; exact absurd (show g_X8_copy v a1 a2 a3 a4 a5 = none from hF) hs
    | succ n92 ih92 =>
      intro w92 x6_92 H locs ls hF hw hl
      have hF := hF.trans (b_X8_copy_L92.eq_1  (g_X8_copy_L92  a1 a2 a3 a4 a5 n92) a1 a2 a3 a4 a5 w92 x6_92)
      refine lv_iload hx hb dX8_copy_92 (lv_at hl 6 rfl) ?_
      refine lv_iload hx hb dX8_copy_94 (lv_at hl 5 rfl) ?_
      refine lv_icmp_ge (tgt := 126) hx hb dX8_copy_96 (by decide) (fun c8 => ?_) (fun c8 => ?_)
      · skip
        have hF := hF.trans (if_pos c8)
        refine lv_iconst (v := 0) hx hb dX8_copy_126 (by decide) ?_
        refine lv_istore (lv' := [(6, .int 0), (0, .ref (Z.1 30 0)), (1, .int a1), (2, .int a2), (3, .int a3), (4, .int a4), (5, .int a5)]) hx hb dX8_copy_127 hl (by decide) rfl (fun ls hl => ?_)
        have hl := lv_sub (l' := [(0, .ref (Z.1 30 0)), (1, .int a1), (2, .int a2), (3, .int a3), (4, .int a4), (5, .int a5), (6, .int 0)]) hl [1, 2, 3, 4, 5, 6, 0] rfl
        exact loop129 2000 w92 0 _ _ _ hF hw hl
      · skip
        have hF := hF.trans (if_neg c8)
        refine lv_aload_n hx hb dX8_copy_99 rfl (lv_at hl 0 rfl) ?_
        refine km_get (ci := 8) (C := RX8) (T := TX8) (N := 23) (t := 30) (i := 0) hx hb hts fi_X8_copy_X8 hown hK hw (by decide) (by decide) rfl rfl 3 (by decide) (hts (.fieldLink RX8 19 "WrongWordModel" "spare" "[I") ow_X8_copy_19) rfl dX8_copy_100 ?_
        refine lv_iload hx hb dX8_copy_103 (lv_at hl 6 rfl) ?_
        refine lv_aload_n hx hb dX8_copy_105 rfl (lv_at hl 0 rfl) ?_
        refine km_get (ci := 8) (C := RX8) (T := TX8) (N := 23) (t := 30) (i := 0) hx hb hts fi_X8_copy_X8 hown hK hw (by decide) (by decide) rfl rfl 2 (by decide) (hts (.fieldLink RX8 16 "WrongWordModel" "items" "[I") ow_X8_copy_16) rfl dX8_copy_106 ?_
        refine lv_bipush (v := 40) hx hb dX8_copy_109 (by decide) ?_
        refine lv_iload_n hx hb dX8_copy_111 rfl (lv_at hl 1 rfl) ?_
        refine lv_imul hx hb dX8_copy_112 ?_
        refine lv_iload_n hx hb dX8_copy_113 rfl (lv_at hl 2 rfl) ?_
        refine lv_iadd hx hb dX8_copy_114 ?_
        refine lv_iload hx hb dX8_copy_115 (lv_at hl 6 rfl) ?_
        refine lv_iadd hx hb dX8_copy_117 ?_
        have hb9 : ¬ ((((40 : Int32) * a1) + a2) + x6_92 < 0 ∨ 320 ≤ Int32.toNatClampNeg ((((40 : Int32) * a1) + a2) + x6_92)) := fun q => hs (hF.trans (if_pos q))
        have hF := hF.trans (if_neg hb9)
        refine km_iald (t := 33) (i := 0) hx hb hK hw (by decide) (by decide) rfl hb9 dX8_copy_118 ?_
        have hb10 : ¬ (x6_92 < 0 ∨ 40 ≤ Int32.toNatClampNeg x6_92) := fun q => hs (hF.trans (if_pos q))
        have hF := hF.trans (if_neg hb10)
        refine km_iast (t := 34) (i := 0) (n := 40) hx hb hK hw (by decide) (by decide) (fun _ => rfl) hb10 dX8_copy_119 (fun H locs hw => ?_)
        obtain ⟨v11, ev11⟩ : ∃ z, z = up3 w92 34 0 (Int32.toNatClampNeg x6_92) (w92 33 0 (Int32.toNatClampNeg ((((40 : Int32) * a1) + a2) + x6_92))) := ⟨_, rfl⟩
        rw [← ev11] at hw
        have hF := hF.trans (kb_some (congrArg some ev11.symm) _)
        refine lv_iinc (v := x6_92 + 1) (lv' := [(6, .int (x6_92 + 1)), (0, .ref (Z.1 30 0)), (1, .int a1), (2, .int a2), (3, .int a3), (4, .int a4), (5, .int a5)]) hx hb dX8_copy_120 hl (k := 6) rfl rfl (by decide) rfl (fun ls hl => ?_)
        refine lv_goto (tgt := 92) hx hb dX8_copy_123 (by decide) ?_
        have hl := lv_sub (l' := [(0, .ref (Z.1 30 0)), (1, .int a1), (2, .int a2), (3, .int a3), (4, .int a4), (5, .int a5), (6, .int (x6_92 + 1))]) hl [1, 2, 3, 4, 5, 6, 0] rfl
        exact ih92 v11 (x6_92 + 1) _ _ _ hF hw hl
  refine lv_iload_n hx hb dX8_copy_0 rfl (lv_at hl 1 rfl) ?_
  have hs12 : g_X8_isRow v a1 ≠ none := fun q => hs (hF.trans (kb_n q _))
  refine km_cS (As := [.int a1]) (rest := []) (n := 1) ⟨hx, hb, hml, hown, hts⟩ (d_X8_isRow l E Z v a1 hs12) gX8_copy_X8_isRow rfl hV_X8_isRow ⟨Nat.le_of_ble_eq_true rfl, Nat.le_of_ble_eq_true rfl⟩ hK hw rfl hl.1 rfl (Nat.le_of_ble_eq_true rfl) dX8_copy_1 rfl rfl (fun r13 v14 H locs hp hw => ?_)
  obtain ⟨hp, hzr13⟩ := hp
  obtain ⟨hp, rfl⟩ := hp
  have hF := hF.trans (kb_some hp _)
  refine lv_if_eq (tgt := 14) hx hb dX8_copy_4 (by decide) (fun c15 => ?_) (fun c15 => ?_)
  · skip
    have hF := hF.trans (if_pos c15)
    refine lv_ldc (v := (-1000001)) hx hb hown (hts (.constant RX8 64 (-1000001)) ow_X8_copy_64) dX8_copy_14 ?_
    exact hret _ _ _ _ _ _ hw dX8_copy_16 hF
  · skip
    have hF := hF.trans (if_neg c15)
    refine lv_iload_n hx hb dX8_copy_7 rfl (lv_at hl 3 rfl) ?_
    have hs16 : g_X8_isRow v a3 ≠ none := fun q => hs (hF.trans (kb_n q _))
    refine km_cS (As := [.int a3]) (rest := []) (n := 1) ⟨hx, hb, hml, hown, hts⟩ (d_X8_isRow l E Z v a3 hs16) gX8_copy_X8_isRow rfl hV_X8_isRow ⟨Nat.le_of_ble_eq_true rfl, Nat.le_of_ble_eq_true rfl⟩ hK hw rfl hl.1 rfl (Nat.le_of_ble_eq_true rfl) dX8_copy_8 rfl rfl (fun r17 v18 H locs hp hw => ?_)
    obtain ⟨hp, hzr17⟩ := hp
    obtain ⟨hp, rfl⟩ := hp
    have hF := hF.trans (kb_some hp _)
    refine lv_if_ne (tgt := 17) hx hb dX8_copy_11 (by decide) (fun c19 => ?_) (fun c19 => ?_)
    · skip
      have hF := hF.trans (if_neg c19)
      refine lv_aload_n hx hb dX8_copy_17 rfl (lv_at hl 0 rfl) ?_
      refine lv_iload_n hx hb dX8_copy_18 rfl (lv_at hl 1 rfl) ?_
      have hs20 : g_X8_isMissing v a1 ≠ none := fun q => hs (hF.trans (kb_n q _))
      refine km_cI (As := [.int a1]) (rest := []) (n := 1) (q := (RX8, TX8, 23)) (ci := 8) (t := 30) (i := 0) ⟨hx, hb, hml, hown, hts⟩ (d_X8_isMissing l E Z v a1 hs20) gX8_copy_X8_isMissing rfl hV_X8_isMissing ⟨Nat.le_of_ble_eq_true rfl, Nat.le_of_ble_eq_true rfl⟩ hK hw (by decide) (by decide) rfl rfl rfl hl.1 rfl (Nat.le_of_ble_eq_true rfl) dX8_copy_19 rfl rfl (fun r21 v22 H locs hp hw => ?_)
      obtain ⟨hp, hzr21⟩ := hp
      obtain ⟨hp, rfl⟩ := hp
      have hF := hF.trans (kb_some hp _)
      refine lv_if_ne (tgt := 33) hx hb dX8_copy_22 (by decide) (fun c23 => ?_) (fun c23 => ?_)
      · skip
        have hF := hF.trans (if_neg c23)
        refine lv_aload_n hx hb dX8_copy_33 rfl (lv_at hl 0 rfl) ?_
        refine lv_iconst (v := 1) hx hb dX8_copy_34 (by decide) ?_
        have hs24 : g_X8_found v 1 ≠ none := fun q => hs (hF.trans (kb2_n q _))
        refine km_cI (As := [.int 1]) (rest := []) (n := 1) (q := (RX8, TX8, 23)) (ci := 8) (t := 30) (i := 0) ⟨hx, hb, hml, hown, hts⟩ (d_X8_found l E Z v 1 hs24) gX8_copy_X8_found rfl hV_X8_found ⟨Nat.le_of_ble_eq_true rfl, Nat.le_of_ble_eq_true rfl⟩ hK hw (by decide) (by decide) rfl rfl rfl hl.1 rfl (Nat.le_of_ble_eq_true rfl) dX8_copy_35 rfl rfl (fun r25 v26 H locs hp hw => ?_)
        have hF := hF.trans (kb2_some hp _)
        exact hret _ _ _ _ _ _ hw dX8_copy_38 hF
      · skip
        have hF := hF.trans (if_pos c23)
        refine lv_aload_n hx hb dX8_copy_25 rfl (lv_at hl 0 rfl) ?_
        refine lv_iload_n hx hb dX8_copy_26 rfl (lv_at hl 3 rfl) ?_
        have hs27 : g_X8_isMissing v a3 ≠ none := fun q => hs (hF.trans (kb_n q _))
        refine km_cI (As := [.int a3]) (rest := []) (n := 1) (q := (RX8, TX8, 23)) (ci := 8) (t := 30) (i := 0) ⟨hx, hb, hml, hown, hts⟩ (d_X8_isMissing l E Z v a3 hs27) gX8_copy_X8_isMissing rfl hV_X8_isMissing ⟨Nat.le_of_ble_eq_true rfl, Nat.le_of_ble_eq_true rfl⟩ hK hw (by decide) (by decide) rfl rfl rfl hl.1 rfl (Nat.le_of_ble_eq_true rfl) dX8_copy_27 rfl rfl (fun r28 v29 H locs hp hw => ?_)
        obtain ⟨hp, hzr28⟩ := hp
        obtain ⟨hp, rfl⟩ := hp
        have hF := hF.trans (kb_some hp _)
        refine lv_if_eq (tgt := 39) hx hb dX8_copy_30 (by decide) (fun c30 => ?_) (fun c30 => ?_)
        · skip
          have hF := hF.trans (if_pos c30)
          refine lv_aload_n hx hb dX8_copy_39 rfl (lv_at hl 0 rfl) ?_
          refine km_get (ci := 8) (C := RX8) (T := TX8) (N := 23) (t := 30) (i := 0) hx hb hts fi_X8_copy_X8 hown hK hw (by decide) (by decide) rfl rfl 0 (by decide) (hts (.fieldLink RX8 7 "WrongWordModel" "lane" "[I") ow_X8_copy_7) rfl dX8_copy_40 ?_
          refine lv_iload_n hx hb dX8_copy_43 rfl (lv_at hl 1 rfl) ?_
          have hb31 : ¬ (a1 < 0 ∨ 8 ≤ Int32.toNatClampNeg a1) := fun q => hs (hF.trans (if_pos q))
          have hF := hF.trans (if_neg hb31)
          refine km_iald (t := 31) (i := 0) hx hb hK hw (by decide) (by decide) rfl hb31 dX8_copy_44 ?_
          refine lv_aload_n hx hb dX8_copy_45 rfl (lv_at hl 0 rfl) ?_
          refine km_get (ci := 8) (C := RX8) (T := TX8) (N := 23) (t := 30) (i := 0) hx hb hts fi_X8_copy_X8 hown hK hw (by decide) (by decide) rfl rfl 0 (by decide) (hts (.fieldLink RX8 7 "WrongWordModel" "lane" "[I") ow_X8_copy_7) rfl dX8_copy_46 ?_
          refine lv_iload_n hx hb dX8_copy_49 rfl (lv_at hl 3 rfl) ?_
          have hb32 : ¬ (a3 < 0 ∨ 8 ≤ Int32.toNatClampNeg a3) := fun q => hs (hF.trans (if_pos q))
          have hF := hF.trans (if_neg hb32)
          refine km_iald (t := 31) (i := 0) hx hb hK hw (by decide) (by decide) rfl hb32 dX8_copy_50 ?_
          refine lv_icmp_eq (tgt := 60) hx hb dX8_copy_51 (by decide) (fun c33 => ?_) (fun c33 => ?_)
          · skip
            have hF := hF.trans (if_pos c33)
            refine lv_aload_n hx hb dX8_copy_60 rfl (lv_at hl 0 rfl) ?_
            refine lv_iload_n hx hb dX8_copy_61 rfl (lv_at hl 1 rfl) ?_
            refine lv_iload_n hx hb dX8_copy_62 rfl (lv_at hl 2 rfl) ?_
            refine lv_iload hx hb dX8_copy_63 (lv_at hl 5 rfl) ?_
            have hs34 : g_X8_isPart v a1 a2 a5 ≠ none := fun q => hs (hF.trans (kb_n q _))
            refine km_cI (As := [.int a1, .int a2, .int a5]) (rest := []) (n := 3) (q := (RX8, TX8, 23)) (ci := 8) (t := 30) (i := 0) ⟨hx, hb, hml, hown, hts⟩ (d_X8_isPart l E Z v a1 a2 a5 hs34) gX8_copy_X8_isPart rfl hV_X8_isPart ⟨Nat.le_of_ble_eq_true rfl, Nat.le_of_ble_eq_true rfl⟩ hK hw (by decide) (by decide) rfl rfl rfl hl.1 rfl (Nat.le_of_ble_eq_true rfl) dX8_copy_65 rfl rfl (fun r35 v36 H locs hp hw => ?_)
            obtain ⟨hp, hzr35⟩ := hp
            obtain ⟨hp, rfl⟩ := hp
            have hF := hF.trans (kb_some hp _)
            refine lv_if_eq (tgt := 83) hx hb dX8_copy_68 (by decide) (fun c37 => ?_) (fun c37 => ?_)
            · skip
              have hF := hF.trans (if_pos c37)
              refine lv_aload_n hx hb dX8_copy_83 rfl (lv_at hl 0 rfl) ?_
              refine lv_iconst (v := 2) hx hb dX8_copy_84 (by decide) ?_
              have hs38 : g_X8_found v 2 ≠ none := fun q => hs (hF.trans (kb2_n q _))
              refine km_cI (As := [.int 2]) (rest := []) (n := 1) (q := (RX8, TX8, 23)) (ci := 8) (t := 30) (i := 0) ⟨hx, hb, hml, hown, hts⟩ (d_X8_found l E Z v 2 hs38) gX8_copy_X8_found rfl hV_X8_found ⟨Nat.le_of_ble_eq_true rfl, Nat.le_of_ble_eq_true rfl⟩ hK hw (by decide) (by decide) rfl rfl rfl hl.1 rfl (Nat.le_of_ble_eq_true rfl) dX8_copy_85 rfl rfl (fun r39 v40 H locs hp hw => ?_)
              have hF := hF.trans (kb2_some hp _)
              exact hret _ _ _ _ _ _ hw dX8_copy_88 hF
            · skip
              have hF := hF.trans (if_neg c37)
              refine lv_aload_n hx hb dX8_copy_71 rfl (lv_at hl 0 rfl) ?_
              refine lv_iload_n hx hb dX8_copy_72 rfl (lv_at hl 3 rfl) ?_
              refine lv_iload hx hb dX8_copy_73 (lv_at hl 4 rfl) ?_
              refine lv_iload hx hb dX8_copy_75 (lv_at hl 5 rfl) ?_
              have hs41 : g_X8_isPart v a3 a4 a5 ≠ none := fun q => hs (hF.trans (kb_n q _))
              refine km_cI (As := [.int a3, .int a4, .int a5]) (rest := []) (n := 3) (q := (RX8, TX8, 23)) (ci := 8) (t := 30) (i := 0) ⟨hx, hb, hml, hown, hts⟩ (d_X8_isPart l E Z v a3 a4 a5 hs41) gX8_copy_X8_isPart rfl hV_X8_isPart ⟨Nat.le_of_ble_eq_true rfl, Nat.le_of_ble_eq_true rfl⟩ hK hw (by decide) (by decide) rfl rfl rfl hl.1 rfl (Nat.le_of_ble_eq_true rfl) dX8_copy_77 rfl rfl (fun r42 v43 H locs hp hw => ?_)
              obtain ⟨hp, hzr42⟩ := hp
              obtain ⟨hp, rfl⟩ := hp
              have hF := hF.trans (kb_some hp _)
              refine lv_if_ne (tgt := 89) hx hb dX8_copy_80 (by decide) (fun c44 => ?_) (fun c44 => ?_)
              · skip
                have hF := hF.trans (if_neg c44)
                refine lv_iconst (v := 0) hx hb dX8_copy_89 (by decide) ?_
                refine lv_istore (lv' := [(6, .int 0), (0, .ref (Z.1 30 0)), (1, .int a1), (2, .int a2), (3, .int a3), (4, .int a4), (5, .int a5)]) hx hb dX8_copy_90 hl (by decide) rfl (fun ls hl => ?_)
                have hl := lv_sub (l' := [(0, .ref (Z.1 30 0)), (1, .int a1), (2, .int a2), (3, .int a3), (4, .int a4), (5, .int a5), (6, .int 0)]) hl [1, 2, 3, 4, 5, 6, 0] rfl
                exact loop92 2000 v 0 _ _ _ hF hw hl
              · skip
                have hF := hF.trans (if_pos c44)
                refine lv_aload_n hx hb dX8_copy_83 rfl (lv_at hl 0 rfl) ?_
                refine lv_iconst (v := 2) hx hb dX8_copy_84 (by decide) ?_
                have hs45 : g_X8_found v 2 ≠ none := fun q => hs (hF.trans (kb2_n q _))
                refine km_cI (As := [.int 2]) (rest := []) (n := 1) (q := (RX8, TX8, 23)) (ci := 8) (t := 30) (i := 0) ⟨hx, hb, hml, hown, hts⟩ (d_X8_found l E Z v 2 hs45) gX8_copy_X8_found rfl hV_X8_found ⟨Nat.le_of_ble_eq_true rfl, Nat.le_of_ble_eq_true rfl⟩ hK hw (by decide) (by decide) rfl rfl rfl hl.1 rfl (Nat.le_of_ble_eq_true rfl) dX8_copy_85 rfl rfl (fun r46 v47 H locs hp hw => ?_)
                have hF := hF.trans (kb2_some hp _)
                exact hret _ _ _ _ _ _ hw dX8_copy_88 hF
          · skip
            have hF := hF.trans (if_neg c33)
            refine lv_aload_n hx hb dX8_copy_54 rfl (lv_at hl 0 rfl) ?_
            refine lv_iconst (v := 5) hx hb dX8_copy_55 (by decide) ?_
            have hs48 : g_X8_found v 5 ≠ none := fun q => hs (hF.trans (kb2_n q _))
            refine km_cI (As := [.int 5]) (rest := []) (n := 1) (q := (RX8, TX8, 23)) (ci := 8) (t := 30) (i := 0) ⟨hx, hb, hml, hown, hts⟩ (d_X8_found l E Z v 5 hs48) gX8_copy_X8_found rfl hV_X8_found ⟨Nat.le_of_ble_eq_true rfl, Nat.le_of_ble_eq_true rfl⟩ hK hw (by decide) (by decide) rfl rfl rfl hl.1 rfl (Nat.le_of_ble_eq_true rfl) dX8_copy_56 rfl rfl (fun r49 v50 H locs hp hw => ?_)
            have hF := hF.trans (kb2_some hp _)
            exact hret _ _ _ _ _ _ hw dX8_copy_59 hF
        · skip
          have hF := hF.trans (if_neg c30)
          refine lv_aload_n hx hb dX8_copy_33 rfl (lv_at hl 0 rfl) ?_
          refine lv_iconst (v := 1) hx hb dX8_copy_34 (by decide) ?_
          have hs51 : g_X8_found v 1 ≠ none := fun q => hs (hF.trans (kb2_n q _))
          refine km_cI (As := [.int 1]) (rest := []) (n := 1) (q := (RX8, TX8, 23)) (ci := 8) (t := 30) (i := 0) ⟨hx, hb, hml, hown, hts⟩ (d_X8_found l E Z v 1 hs51) gX8_copy_X8_found rfl hV_X8_found ⟨Nat.le_of_ble_eq_true rfl, Nat.le_of_ble_eq_true rfl⟩ hK hw (by decide) (by decide) rfl rfl rfl hl.1 rfl (Nat.le_of_ble_eq_true rfl) dX8_copy_35 rfl rfl (fun r52 v53 H locs hp hw => ?_)
          have hF := hF.trans (kb2_some hp _)
          exact hret _ _ _ _ _ _ hw dX8_copy_38 hF
    · skip
      have hF := hF.trans (if_pos c19)
      refine lv_ldc (v := (-1000001)) hx hb hown (hts (.constant RX8 64 (-1000001)) ow_X8_copy_64) dX8_copy_14 ?_
      exact hret _ _ _ _ _ _ hw dX8_copy_16 hF
abbrev rmX8_drop : Room := { frames := 2, cells := 0, slots := 0, locals := 42 }
def g_X8_drop (v : Mm) (a1 : Int32) : Option (Int32 × Mm) := Option.bind (g_X8_isRow v a1) (fun r2 => if r2 = 0 then (some ((-1000001), v)) else (Option.bind (g_X8_isMissing v a1) (fun r6 => if r6 = 0 then (if a1 < 0 ∨ 8 ≤ Int32.toNatClampNeg a1 then none else (Option.bind (some (up3 v 31 0 (Int32.toNatClampNeg a1) ((-1000000)))) (fun v10 => if a1 < 0 ∨ 8 ≤ Int32.toNatClampNeg a1 then none else (kb2 (g_X8_well v10 (v10 32 0 (Int32.toNatClampNeg a1))) (fun r13 v14 => some (r13, v14)))))) else (kb2 (g_X8_found v 1) (fun r16 v17 => some (r16, v17))))))
set_option maxHeartbeats 4000000 in
set_option maxRecDepth 100000 in
theorem d_X8_drop (l : Launch) (E : kq_T) (Z : km_Z) (v : Mm) (a1 : Int32) (hs : g_X8_drop v a1 ≠ none) : km_I l E Z cntM yX8_drop wsX8_drop rmX8_drop [.ref (Z.1 30 0), .int a1] v (fun r v1 => g_X8_drop v a1 = some (r, v1)) := by
  refine km_goI (cc := cX8_drop) (maxL := 2) (by decide) rfl (Nat.le_of_ble_eq_true rfl) rfl rfl rfl ?_
  intro p e s m below meth c A ls Q C hK hw hl hret
  obtain ⟨hx, hb, hml, hown, hts, -, -, -⟩ := C
  have hown : s.vm.findClass RX8 = some m.cls := hown
  have hl : lv_has ls 2 [(0, .ref (Z.1 30 0)), (1, .int a1)] := hl
  have hF := g_X8_drop.eq_1 v a1
  refine lv_iload_n hx hb dX8_drop_0 rfl (lv_at hl 1 rfl) ?_
  have hs1 : g_X8_isRow v a1 ≠ none := fun q => hs (hF.trans (kb_n q _))
  refine km_cS (As := [.int a1]) (rest := []) (n := 1) ⟨hx, hb, hml, hown, hts⟩ (d_X8_isRow l E Z v a1 hs1) gX8_drop_X8_isRow rfl hV_X8_isRow ⟨Nat.le_of_ble_eq_true rfl, Nat.le_of_ble_eq_true rfl⟩ hK hw rfl hl.1 rfl (Nat.le_of_ble_eq_true rfl) dX8_drop_1 rfl rfl (fun r2 v3 H locs hp hw => ?_)
  obtain ⟨hp, hzr2⟩ := hp
  obtain ⟨hp, rfl⟩ := hp
  have hF := hF.trans (kb_some hp _)
  refine lv_if_ne (tgt := 10) hx hb dX8_drop_4 (by decide) (fun c4 => ?_) (fun c4 => ?_)
  · skip
    have hF := hF.trans (if_neg c4)
    refine lv_aload_n hx hb dX8_drop_10 rfl (lv_at hl 0 rfl) ?_
    refine lv_iload_n hx hb dX8_drop_11 rfl (lv_at hl 1 rfl) ?_
    have hs5 : g_X8_isMissing v a1 ≠ none := fun q => hs (hF.trans (kb_n q _))
    refine km_cI (As := [.int a1]) (rest := []) (n := 1) (q := (RX8, TX8, 23)) (ci := 8) (t := 30) (i := 0) ⟨hx, hb, hml, hown, hts⟩ (d_X8_isMissing l E Z v a1 hs5) gX8_drop_X8_isMissing rfl hV_X8_isMissing ⟨Nat.le_of_ble_eq_true rfl, Nat.le_of_ble_eq_true rfl⟩ hK hw (by decide) (by decide) rfl rfl rfl hl.1 rfl (Nat.le_of_ble_eq_true rfl) dX8_drop_12 rfl rfl (fun r6 v7 H locs hp hw => ?_)
    obtain ⟨hp, hzr6⟩ := hp
    obtain ⟨hp, rfl⟩ := hp
    have hF := hF.trans (kb_some hp _)
    refine lv_if_eq (tgt := 24) hx hb dX8_drop_15 (by decide) (fun c8 => ?_) (fun c8 => ?_)
    · skip
      have hF := hF.trans (if_pos c8)
      refine lv_aload_n hx hb dX8_drop_24 rfl (lv_at hl 0 rfl) ?_
      refine km_get (ci := 8) (C := RX8) (T := TX8) (N := 23) (t := 30) (i := 0) hx hb hts fi_X8_drop_X8 hown hK hw (by decide) (by decide) rfl rfl 0 (by decide) (hts (.fieldLink RX8 7 "WrongWordModel" "lane" "[I") ow_X8_drop_7) rfl dX8_drop_25 ?_
      refine lv_iload_n hx hb dX8_drop_28 rfl (lv_at hl 1 rfl) ?_
      refine lv_ldc (v := (-1000000)) hx hb hown (hts (.constant RX8 50 (-1000000)) ow_X8_drop_50) dX8_drop_29 ?_
      have hb9 : ¬ (a1 < 0 ∨ 8 ≤ Int32.toNatClampNeg a1) := fun q => hs (hF.trans (if_pos q))
      have hF := hF.trans (if_neg hb9)
      refine km_iast (t := 31) (i := 0) (n := 8) hx hb hK hw (by decide) (by decide) (fun _ => rfl) hb9 dX8_drop_31 (fun H locs hw => ?_)
      obtain ⟨v10, ev10⟩ : ∃ z, z = up3 v 31 0 (Int32.toNatClampNeg a1) ((-1000000)) := ⟨_, rfl⟩
      rw [← ev10] at hw
      have hF := hF.trans (kb_some (congrArg some ev10.symm) _)
      refine lv_aload_n hx hb dX8_drop_32 rfl (lv_at hl 0 rfl) ?_
      refine lv_aload_n hx hb dX8_drop_33 rfl (lv_at hl 0 rfl) ?_
      refine km_get (ci := 8) (C := RX8) (T := TX8) (N := 23) (t := 30) (i := 0) hx hb hts fi_X8_drop_X8 hown hK hw (by decide) (by decide) rfl rfl 1 (by decide) (hts (.fieldLink RX8 13 "WrongWordModel" "many" "[I") ow_X8_drop_13) rfl dX8_drop_34 ?_
      refine lv_iload_n hx hb dX8_drop_37 rfl (lv_at hl 1 rfl) ?_
      have hb11 : ¬ (a1 < 0 ∨ 8 ≤ Int32.toNatClampNeg a1) := fun q => hs (hF.trans (if_pos q))
      have hF := hF.trans (if_neg hb11)
      refine km_iald (t := 32) (i := 0) hx hb hK hw (by decide) (by decide) rfl hb11 dX8_drop_38 ?_
      have hs12 : g_X8_well v10 (v10 32 0 (Int32.toNatClampNeg a1)) ≠ none := fun q => hs (hF.trans (kb2_n q _))
      refine km_cI (As := [.int (v10 32 0 (Int32.toNatClampNeg a1))]) (rest := []) (n := 1) (q := (RX8, TX8, 23)) (ci := 8) (t := 30) (i := 0) ⟨hx, hb, hml, hown, hts⟩ (d_X8_well l E Z v10 (v10 32 0 (Int32.toNatClampNeg a1)) hs12) gX8_drop_X8_well rfl hV_X8_well ⟨Nat.le_of_ble_eq_true rfl, Nat.le_of_ble_eq_true rfl⟩ hK hw (by decide) (by decide) rfl rfl rfl hl.1 rfl (Nat.le_of_ble_eq_true rfl) dX8_drop_39 rfl rfl (fun r13 v14 H locs hp hw => ?_)
      have hF := hF.trans (kb2_some hp _)
      exact hret _ _ _ _ _ _ hw dX8_drop_42 hF
    · skip
      have hF := hF.trans (if_neg c8)
      refine lv_aload_n hx hb dX8_drop_18 rfl (lv_at hl 0 rfl) ?_
      refine lv_iconst (v := 1) hx hb dX8_drop_19 (by decide) ?_
      have hs15 : g_X8_found v 1 ≠ none := fun q => hs (hF.trans (kb2_n q _))
      refine km_cI (As := [.int 1]) (rest := []) (n := 1) (q := (RX8, TX8, 23)) (ci := 8) (t := 30) (i := 0) ⟨hx, hb, hml, hown, hts⟩ (d_X8_found l E Z v 1 hs15) gX8_drop_X8_found rfl hV_X8_found ⟨Nat.le_of_ble_eq_true rfl, Nat.le_of_ble_eq_true rfl⟩ hK hw (by decide) (by decide) rfl rfl rfl hl.1 rfl (Nat.le_of_ble_eq_true rfl) dX8_drop_20 rfl rfl (fun r16 v17 H locs hp hw => ?_)
      have hF := hF.trans (kb2_some hp _)
      exact hret _ _ _ _ _ _ hw dX8_drop_23 hF
  · skip
    have hF := hF.trans (if_pos c4)
    refine lv_ldc (v := (-1000001)) hx hb hown (hts (.constant RX8 64 (-1000001)) ow_X8_drop_64) dX8_drop_7 ?_
    exact hret _ _ _ _ _ _ hw dX8_drop_9 hF
abbrev rmX8_feed : Room := { frames := 1, cells := 0, slots := 0, locals := 22 }
def g_X8_feed (v : Mm) (a1 : Int32) : Option (Int32 × Mm) := Option.bind (g_X8_in v a1 0 255) (fun r2 => if r2 = 0 then (some ((-1000001), v)) else (if v 30 0 6 = 100 then (some ((-1000003), v)) else (if v 30 0 6 < 0 ∨ 100 ≤ Int32.toNatClampNeg (v 30 0 6) then none else (Option.bind (some (up3 v 35 0 (Int32.toNatClampNeg (v 30 0 6)) a1)) (fun v7 => Option.bind (some (up3 v7 30 0 6 ((v7 30 0 6) + 1))) (fun v8 => some (v8 30 0 6, v8)))))))
set_option maxHeartbeats 4000000 in
set_option maxRecDepth 100000 in
theorem d_X8_feed (l : Launch) (E : kq_T) (Z : km_Z) (v : Mm) (a1 : Int32) (hs : g_X8_feed v a1 ≠ none) : km_I l E Z cntM yX8_feed wsX8_feed rmX8_feed [.ref (Z.1 30 0), .int a1] v (fun r v1 => g_X8_feed v a1 = some (r, v1)) := by
  refine km_goI (cc := cX8_feed) (maxL := 2) (by decide) rfl (Nat.le_of_ble_eq_true rfl) rfl rfl rfl ?_
  intro p e s m below meth c A ls Q C hK hw hl hret
  obtain ⟨hx, hb, hml, hown, hts, -, -, -⟩ := C
  have hown : s.vm.findClass RX8 = some m.cls := hown
  have hl : lv_has ls 2 [(0, .ref (Z.1 30 0)), (1, .int a1)] := hl
  have hF := g_X8_feed.eq_1 v a1
  refine lv_iload_n hx hb dX8_feed_0 rfl (lv_at hl 1 rfl) ?_
  refine lv_iconst (v := 0) hx hb dX8_feed_1 (by decide) ?_
  refine lv_sipush (v := 255) hx hb dX8_feed_2 (by decide) ?_
  have hs1 : g_X8_in v a1 0 255 ≠ none := fun q => hs (hF.trans (kb_n q _))
  refine km_cS (As := [.int a1, .int 0, .int 255]) (rest := []) (n := 3) ⟨hx, hb, hml, hown, hts⟩ (d_X8_in l E Z v a1 0 255 hs1) gX8_feed_X8_in rfl hV_X8_in ⟨Nat.le_of_ble_eq_true rfl, Nat.le_of_ble_eq_true rfl⟩ hK hw rfl hl.1 rfl (Nat.le_of_ble_eq_true rfl) dX8_feed_5 rfl rfl (fun r2 v3 H locs hp hw => ?_)
  obtain ⟨hp, hzr2⟩ := hp
  obtain ⟨hp, rfl⟩ := hp
  have hF := hF.trans (kb_some hp _)
  refine lv_if_ne (tgt := 14) hx hb dX8_feed_8 (by decide) (fun c4 => ?_) (fun c4 => ?_)
  · skip
    have hF := hF.trans (if_neg c4)
    refine lv_aload_n hx hb dX8_feed_14 rfl (lv_at hl 0 rfl) ?_
    refine km_get (ci := 8) (C := RX8) (T := TX8) (N := 23) (t := 30) (i := 0) hx hb hts fi_X8_feed_X8 hown hK hw (by decide) (by decide) rfl rfl 6 (by decide) (hts (.fieldLink RX8 82 "WrongWordModel" "taped" "I") ow_X8_feed_82) rfl dX8_feed_15 ?_
    refine lv_bipush (v := 100) hx hb dX8_feed_18 (by decide) ?_
    refine lv_icmp_ne (tgt := 26) hx hb dX8_feed_20 (by decide) (fun c5 => ?_) (fun c5 => ?_)
    · skip
      have hF := hF.trans (if_neg c5)
      refine lv_aload_n hx hb dX8_feed_26 rfl (lv_at hl 0 rfl) ?_
      refine km_get (ci := 8) (C := RX8) (T := TX8) (N := 23) (t := 30) (i := 0) hx hb hts fi_X8_feed_X8 hown hK hw (by decide) (by decide) rfl rfl 5 (by decide) (hts (.fieldLink RX8 22 "WrongWordModel" "tape" "[I") ow_X8_feed_22) rfl dX8_feed_27 ?_
      refine lv_aload_n hx hb dX8_feed_30 rfl (lv_at hl 0 rfl) ?_
      refine km_get (ci := 8) (C := RX8) (T := TX8) (N := 23) (t := 30) (i := 0) hx hb hts fi_X8_feed_X8 hown hK hw (by decide) (by decide) rfl rfl 6 (by decide) (hts (.fieldLink RX8 82 "WrongWordModel" "taped" "I") ow_X8_feed_82) rfl dX8_feed_31 ?_
      refine lv_iload_n hx hb dX8_feed_34 rfl (lv_at hl 1 rfl) ?_
      have hb6 : ¬ (v 30 0 6 < 0 ∨ 100 ≤ Int32.toNatClampNeg (v 30 0 6)) := fun q => hs (hF.trans (if_pos q))
      have hF := hF.trans (if_neg hb6)
      refine km_iast (t := 35) (i := 0) (n := 100) hx hb hK hw (by decide) (by decide) (fun _ => rfl) hb6 dX8_feed_35 (fun H locs hw => ?_)
      obtain ⟨v7, ev7⟩ : ∃ z, z = up3 v 35 0 (Int32.toNatClampNeg (v 30 0 6)) a1 := ⟨_, rfl⟩
      rw [← ev7] at hw
      have hF := hF.trans (kb_some (congrArg some ev7.symm) _)
      refine lv_aload_n hx hb dX8_feed_36 rfl (lv_at hl 0 rfl) ?_
      refine lv_dup hx hb dX8_feed_37 rfl ?_
      refine km_get (ci := 8) (C := RX8) (T := TX8) (N := 23) (t := 30) (i := 0) hx hb hts fi_X8_feed_X8 hown hK hw (by decide) (by decide) rfl rfl 6 (by decide) (hts (.fieldLink RX8 82 "WrongWordModel" "taped" "I") ow_X8_feed_82) rfl dX8_feed_38 ?_
      refine lv_iconst (v := 1) hx hb dX8_feed_41 (by decide) ?_
      refine lv_iadd hx hb dX8_feed_42 ?_
      refine km_put (ci := 8) (C := RX8) (T := TX8) (N := 23) (t := 30) (i := 0) hx hb hts fi_X8_feed_X8 tyX8 tyX8_ok nmX8 hown hK hw (by decide) (by decide) rfl rfl 6 (by decide) (hts (.fieldLink RX8 82 "WrongWordModel" "taped" "I") ow_X8_feed_82) rfl (by decide +kernel) (Nat.le_of_ble_eq_true rfl) rfl dX8_feed_43 (fun H locs hw => ?_)
      obtain ⟨v8, ev8⟩ : ∃ z, z = up3 v7 30 0 6 ((v7 30 0 6) + 1) := ⟨_, rfl⟩
      rw [← ev8] at hw
      have hF := hF.trans (kb_some (congrArg some ev8.symm) _)
      refine lv_aload_n hx hb dX8_feed_46 rfl (lv_at hl 0 rfl) ?_
      refine km_get (ci := 8) (C := RX8) (T := TX8) (N := 23) (t := 30) (i := 0) hx hb hts fi_X8_feed_X8 hown hK hw (by decide) (by decide) rfl rfl 6 (by decide) (hts (.fieldLink RX8 82 "WrongWordModel" "taped" "I") ow_X8_feed_82) rfl dX8_feed_47 ?_
      exact hret _ _ _ _ _ _ hw dX8_feed_50 hF
    · skip
      have hF := hF.trans (if_pos c5)
      refine lv_ldc (v := (-1000003)) hx hb hown (hts (.constant RX8 85 (-1000003)) ow_X8_feed_85) dX8_feed_23 ?_
      exact hret _ _ _ _ _ _ hw dX8_feed_25 hF
  · skip
    have hF := hF.trans (if_pos c4)
    refine lv_ldc (v := (-1000001)) hx hb hown (hts (.constant RX8 64 (-1000001)) ow_X8_feed_64) dX8_feed_11 ?_
    exact hret _ _ _ _ _ _ hw dX8_feed_13 hF
abbrev rmX8_byteAt : Room := { frames := 0, cells := 0, slots := 0, locals := 0 }
def g_X8_byteAt (v : Mm) (a1 : Int32) : Option (Int32) := if v 30 0 6 ≤ a1 then (some ((-1))) else (if a1 < 0 ∨ 100 ≤ Int32.toNatClampNeg a1 then none else (some (v 35 0 (Int32.toNatClampNeg a1))))
set_option maxHeartbeats 4000000 in
set_option maxRecDepth 100000 in
theorem d_X8_byteAt (l : Launch) (E : kq_T) (Z : km_Z) (v : Mm) (a1 : Int32) (hs : g_X8_byteAt v a1 ≠ none) : km_I l E Z cntM yX8_byteAt wsX8_byteAt rmX8_byteAt [.ref (Z.1 30 0), .int a1] v (fun r v1 => g_X8_byteAt v a1 = some r ∧ v = v1) := by
  refine km_goI (cc := cX8_byteAt) (maxL := 2) (by decide) rfl (Nat.le_of_ble_eq_true rfl) rfl rfl rfl ?_
  intro p e s m below meth c A ls Q C hK hw hl hret
  obtain ⟨hx, hb, hml, hown, hts, -, -, -⟩ := C
  have hown : s.vm.findClass RX8 = some m.cls := hown
  have hl : lv_has ls 2 [(0, .ref (Z.1 30 0)), (1, .int a1)] := hl
  have hF := g_X8_byteAt.eq_1 v a1
  refine lv_iload_n hx hb dX8_byteAt_0 rfl (lv_at hl 1 rfl) ?_
  refine lv_aload_n hx hb dX8_byteAt_1 rfl (lv_at hl 0 rfl) ?_
  refine km_get (ci := 8) (C := RX8) (T := TX8) (N := 23) (t := 30) (i := 0) hx hb hts fi_X8_byteAt_X8 hown hK hw (by decide) (by decide) rfl rfl 6 (by decide) (hts (.fieldLink RX8 82 "WrongWordModel" "taped" "I") ow_X8_byteAt_82) rfl dX8_byteAt_2 ?_
  refine lv_icmp_ge (tgt := 17) hx hb dX8_byteAt_5 (by decide) (fun c1 => ?_) (fun c1 => ?_)
  · skip
    have hF := hF.trans (if_pos c1)
    refine lv_iconst (v := (-1)) hx hb dX8_byteAt_17 (by decide) ?_
    exact hret _ _ _ _ _ _ hw dX8_byteAt_18 ⟨hF, rfl⟩
  · skip
    have hF := hF.trans (if_neg c1)
    refine lv_aload_n hx hb dX8_byteAt_8 rfl (lv_at hl 0 rfl) ?_
    refine km_get (ci := 8) (C := RX8) (T := TX8) (N := 23) (t := 30) (i := 0) hx hb hts fi_X8_byteAt_X8 hown hK hw (by decide) (by decide) rfl rfl 5 (by decide) (hts (.fieldLink RX8 22 "WrongWordModel" "tape" "[I") ow_X8_byteAt_22) rfl dX8_byteAt_9 ?_
    refine lv_iload_n hx hb dX8_byteAt_12 rfl (lv_at hl 1 rfl) ?_
    have hb2 : ¬ (a1 < 0 ∨ 100 ≤ Int32.toNatClampNeg a1) := fun q => hs (hF.trans (if_pos q))
    have hF := hF.trans (if_neg hb2)
    refine km_iald (t := 35) (i := 0) hx hb hK hw (by decide) (by decide) rfl hb2 dX8_byteAt_13 ?_
    refine lv_goto (tgt := 18) hx hb dX8_byteAt_14 (by decide) ?_
    exact hret _ _ _ _ _ _ hw dX8_byteAt_18 ⟨hF, rfl⟩
abbrev rmX8_advances : Room := { frames := 1, cells := 0, slots := 0, locals := 22 }
def b_X8_advances_L38  (rec38 : Mm → Int32 → Option (Mm))  (w38 : Mm) (x1_38 : Int32) : Option (Mm) := Option.bind (g_X8_byteAt w38 (w38 30 0 9)) (fun r39 => Option.bind (g_X8_in w38 r39 48 57) (fun r42 => if r42 = 0 then (if 3 ≤ (w38 30 0 9) - (w38 30 0 10) then (Option.bind (some (up3 w38 30 0 11 5)) (fun v46 => some v46)) else (Option.bind (some (up3 w38 30 0 11 2)) (fun v47 => some v47))) else (if 2 ≤ (w38 30 0 9) - (w38 30 0 10) then (Option.bind (some (up3 w38 30 0 12 (w38 30 0 12))) (fun v49 => Option.bind (some (up3 v49 30 0 9 ((v49 30 0 9) + 1))) (fun v50 => rec38 v50 x1_38))) else (Option.bind (g_X8_byteAt w38 (w38 30 0 9)) (fun r52 => Option.bind (some (up3 w38 30 0 12 ((((10 : Int32) * (w38 30 0 12)) + r52) - 48))) (fun v54 => Option.bind (some (up3 v54 30 0 9 ((v54 30 0 9) + 1))) (fun v55 => rec38 v55 x1_38)))))))
def g_X8_advances_L38   : Nat → Mm → Int32 → Option (Mm)
  | 0 => fun _ _ => none
  | n + 1 => b_X8_advances_L38  (g_X8_advances_L38   n) 
def g_X8_advances (v : Mm)  : Option (Mm) := Option.bind (some (up3 v 30 0 10 (v 30 0 9))) (fun v1 => Option.bind (g_X8_byteAt v1 (v1 30 0 9)) (fun r3 => Option.bind (some (up3 v1 30 0 12 r3)) (fun v5 => Option.bind (g_X8_in v5 r3 48 57) (fun r7 => if r7 = 0 then (if 0 ≤ r3 then (Option.bind (g_X8_in v5 r3 97 122) (fun r12 => if r12 = 0 then (if r3 = 44 then (Option.bind (some (up3 v5 30 0 11 3)) (fun v25 => if v25 30 0 11 = 0 then (Option.bind (some (up3 v25 30 0 9 ((v25 30 0 9) + 0))) (fun v28 => some v28)) else (Option.bind (some (up3 v25 30 0 9 ((v25 30 0 9) + 1))) (fun v27 => some v27)))) else (if r3 = 59 then (Option.bind (some (up3 v5 30 0 11 4)) (fun v21 => if v21 30 0 11 = 0 then (Option.bind (some (up3 v21 30 0 9 ((v21 30 0 9) + 0))) (fun v24 => some v24)) else (Option.bind (some (up3 v21 30 0 9 ((v21 30 0 9) + 1))) (fun v23 => some v23)))) else (Option.bind (some (up3 v5 30 0 11 5)) (fun v17 => if v17 30 0 11 = 0 then (Option.bind (some (up3 v17 30 0 9 ((v17 30 0 9) + 0))) (fun v20 => some v20)) else (Option.bind (some (up3 v17 30 0 9 ((v17 30 0 9) + 1))) (fun v19 => some v19)))))) else (Option.bind (some (up3 v5 30 0 11 1)) (fun v29 => if v29 30 0 11 = 0 then (Option.bind (some (up3 v29 30 0 9 ((v29 30 0 9) + 0))) (fun v32 => some v32)) else (Option.bind (some (up3 v29 30 0 9 ((v29 30 0 9) + 1))) (fun v31 => some v31)))))) else (Option.bind (some (up3 v5 30 0 11 0)) (fun v33 => if v33 30 0 11 = 0 then (Option.bind (some (up3 v33 30 0 9 ((v33 30 0 9) + 0))) (fun v36 => some v36)) else (Option.bind (some (up3 v33 30 0 9 ((v33 30 0 9) + 1))) (fun v35 => some v35))))) else (Option.bind (some (up3 v5 30 0 12 0)) (fun v37 => g_X8_advances_L38   2000 v37 r3))))))
set_option maxHeartbeats 4000000 in
set_option maxRecDepth 100000 in
theorem d_X8_advances (l : Launch) (E : kq_T) (Z : km_Z) (v : Mm) (hs : g_X8_advances v ≠ none) : km_V l E Z cntM yX8_advances wsX8_advances rmX8_advances [.ref (Z.1 30 0)] v (fun v1 => g_X8_advances v = some v1) := by
  refine km_goV (cc := cX8_advances) (maxL := 2) (by decide) rfl (Nat.le_of_ble_eq_true rfl) rfl rfl rfl ?_
  intro p e s m below meth c A ls Q C hK hw hl hret
  obtain ⟨hx, hb, hml, hown, hts, -, -, -⟩ := C
  have hown : s.vm.findClass RX8 = some m.cls := hown
  have hl : lv_has ls 2 [(0, .ref (Z.1 30 0))] := hl
  have hF := g_X8_advances.eq_1 v 
  have loop38 : ∀ (n38 : Nat) (w38 : Mm) (x1_38 : Int32) (H : Heap) (locs : List Loc) (ls : Array Slot), g_X8_advances v = g_X8_advances_L38   n38 w38 x1_38 → km_w E A s.heap [] Z cntM w38 H locs → lv_has ls 2 [(0, .ref (Z.1 30 0)), (1, .int x1_38)] → W p l e rmX8_advances s m [.ref (Z.1 30 0)].toArray below meth c H locs 0 0 Q (F0 m 38 ls []) := by
    intro n38
    induction n38 with
    | zero => intro w38 x1_38 H locs ls hF hw hl; exact absurd (show g_X8_advances v = none from hF) hs
    | succ n38 ih38 =>
      intro w38 x1_38 H locs ls hF hw hl
      have hF := hF.trans (b_X8_advances_L38.eq_1  (g_X8_advances_L38   n38)  w38 x1_38)
      refine lv_aload_n hx hb dX8_advances_38 rfl (lv_at hl 0 rfl) ?_
      refine lv_aload_n hx hb dX8_advances_39 rfl (lv_at hl 0 rfl) ?_
      refine km_get (ci := 8) (C := RX8) (T := TX8) (N := 23) (t := 30) (i := 0) hx hb hts fi_X8_advances_X8 hown hK hw (by decide) (by decide) rfl rfl 9 (by decide) (hts (.fieldLink RX8 86 "WrongWordModel" "at" "I") ow_X8_advances_86) rfl dX8_advances_40 ?_
      have hs1 : g_X8_byteAt w38 (w38 30 0 9) ≠ none := fun q => hs (hF.trans (kb_n q _))
      refine km_cI (As := [.int (w38 30 0 9)]) (rest := []) (n := 1) (q := (RX8, TX8, 23)) (ci := 8) (t := 30) (i := 0) ⟨hx, hb, hml, hown, hts⟩ (d_X8_byteAt l E Z w38 (w38 30 0 9) hs1) gX8_advances_X8_byteAt rfl hV_X8_byteAt ⟨Nat.le_of_ble_eq_true rfl, Nat.le_of_ble_eq_true rfl⟩ hK hw (by decide) (by decide) rfl rfl rfl hl.1 rfl (Nat.le_of_ble_eq_true rfl) dX8_advances_43 rfl rfl (fun r2 v3 H locs hp hw => ?_)
      obtain ⟨hp, rfl⟩ := hp
      have hF := hF.trans (kb_some hp _)
      refine lv_bipush (v := 48) hx hb dX8_advances_46 (by decide) ?_
      refine lv_bipush (v := 57) hx hb dX8_advances_48 (by decide) ?_
      have hs4 : g_X8_in w38 r2 48 57 ≠ none := fun q => hs (hF.trans (kb_n q _))
      refine km_cS (As := [.int r2, .int 48, .int 57]) (rest := []) (n := 3) ⟨hx, hb, hml, hown, hts⟩ (d_X8_in l E Z w38 r2 48 57 hs4) gX8_advances_X8_in rfl hV_X8_in ⟨Nat.le_of_ble_eq_true rfl, Nat.le_of_ble_eq_true rfl⟩ hK hw rfl hl.1 rfl (Nat.le_of_ble_eq_true rfl) dX8_advances_50 rfl rfl (fun r5 v6 H locs hp hw => ?_)
      obtain ⟨hp, hzr5⟩ := hp
      obtain ⟨hp, rfl⟩ := hp
      have hF := hF.trans (kb_some hp _)
      refine lv_if_eq (tgt := 112) hx hb dX8_advances_53 (by decide) (fun c7 => ?_) (fun c7 => ?_)
      · skip
        have hF := hF.trans (if_pos c7)
        refine lv_aload_n hx hb dX8_advances_112 rfl (lv_at hl 0 rfl) ?_
        refine lv_aload_n hx hb dX8_advances_113 rfl (lv_at hl 0 rfl) ?_
        refine km_get (ci := 8) (C := RX8) (T := TX8) (N := 23) (t := 30) (i := 0) hx hb hts fi_X8_advances_X8 hown hK hw (by decide) (by decide) rfl rfl 9 (by decide) (hts (.fieldLink RX8 86 "WrongWordModel" "at" "I") ow_X8_advances_86) rfl dX8_advances_114 ?_
        refine lv_aload_n hx hb dX8_advances_117 rfl (lv_at hl 0 rfl) ?_
        refine km_get (ci := 8) (C := RX8) (T := TX8) (N := 23) (t := 30) (i := 0) hx hb hts fi_X8_advances_X8 hown hK hw (by decide) (by decide) rfl rfl 10 (by decide) (hts (.fieldLink RX8 89 "WrongWordModel" "start" "I") ow_X8_advances_89) rfl dX8_advances_118 ?_
        refine lv_isub hx hb dX8_advances_121 ?_
        refine lv_iconst (v := 3) hx hb dX8_advances_122 (by decide) ?_
        refine lv_icmp_ge (tgt := 130) hx hb dX8_advances_123 (by decide) (fun c8 => ?_) (fun c8 => ?_)
        · skip
          have hF := hF.trans (if_pos c8)
          refine lv_iconst (v := 5) hx hb dX8_advances_130 (by decide) ?_
          refine km_put (ci := 8) (C := RX8) (T := TX8) (N := 23) (t := 30) (i := 0) hx hb hts fi_X8_advances_X8 tyX8 tyX8_ok nmX8 hown hK hw (by decide) (by decide) rfl rfl 11 (by decide) (hts (.fieldLink RX8 98 "WrongWordModel" "token" "I") ow_X8_advances_98) rfl (by decide +kernel) (Nat.le_of_ble_eq_true rfl) rfl dX8_advances_131 (fun H locs hw => ?_)
          obtain ⟨v9, ev9⟩ : ∃ z, z = up3 w38 30 0 11 5 := ⟨_, rfl⟩
          rw [← ev9] at hw
          have hF := hF.trans (kb_some (congrArg some ev9.symm) _)
          exact hret _ _ _ _ _ hw dX8_advances_134 hF
        · skip
          have hF := hF.trans (if_neg c8)
          refine lv_iconst (v := 2) hx hb dX8_advances_126 (by decide) ?_
          refine lv_goto (tgt := 131) hx hb dX8_advances_127 (by decide) ?_
          refine km_put (ci := 8) (C := RX8) (T := TX8) (N := 23) (t := 30) (i := 0) hx hb hts fi_X8_advances_X8 tyX8 tyX8_ok nmX8 hown hK hw (by decide) (by decide) rfl rfl 11 (by decide) (hts (.fieldLink RX8 98 "WrongWordModel" "token" "I") ow_X8_advances_98) rfl (by decide +kernel) (Nat.le_of_ble_eq_true rfl) rfl dX8_advances_131 (fun H locs hw => ?_)
          obtain ⟨v10, ev10⟩ : ∃ z, z = up3 w38 30 0 11 2 := ⟨_, rfl⟩
          rw [← ev10] at hw
          have hF := hF.trans (kb_some (congrArg some ev10.symm) _)
          exact hret _ _ _ _ _ hw dX8_advances_134 hF
      · skip
        have hF := hF.trans (if_neg c7)
        refine lv_aload_n hx hb dX8_advances_56 rfl (lv_at hl 0 rfl) ?_
        refine lv_aload_n hx hb dX8_advances_57 rfl (lv_at hl 0 rfl) ?_
        refine km_get (ci := 8) (C := RX8) (T := TX8) (N := 23) (t := 30) (i := 0) hx hb hts fi_X8_advances_X8 hown hK hw (by decide) (by decide) rfl rfl 9 (by decide) (hts (.fieldLink RX8 86 "WrongWordModel" "at" "I") ow_X8_advances_86) rfl dX8_advances_58 ?_
        refine lv_aload_n hx hb dX8_advances_61 rfl (lv_at hl 0 rfl) ?_
        refine km_get (ci := 8) (C := RX8) (T := TX8) (N := 23) (t := 30) (i := 0) hx hb hts fi_X8_advances_X8 hown hK hw (by decide) (by decide) rfl rfl 10 (by decide) (hts (.fieldLink RX8 89 "WrongWordModel" "start" "I") ow_X8_advances_89) rfl dX8_advances_62 ?_
        refine lv_isub hx hb dX8_advances_65 ?_
        refine lv_iconst (v := 2) hx hb dX8_advances_66 (by decide) ?_
        refine lv_icmp_ge (tgt := 92) hx hb dX8_advances_67 (by decide) (fun c11 => ?_) (fun c11 => ?_)
        · skip
          have hF := hF.trans (if_pos c11)
          refine lv_aload_n hx hb dX8_advances_92 rfl (lv_at hl 0 rfl) ?_
          refine km_get (ci := 8) (C := RX8) (T := TX8) (N := 23) (t := 30) (i := 0) hx hb hts fi_X8_advances_X8 hown hK hw (by decide) (by decide) rfl rfl 12 (by decide) (hts (.fieldLink RX8 95 "WrongWordModel" "value" "I") ow_X8_advances_95) rfl dX8_advances_93 ?_
          refine km_put (ci := 8) (C := RX8) (T := TX8) (N := 23) (t := 30) (i := 0) hx hb hts fi_X8_advances_X8 tyX8 tyX8_ok nmX8 hown hK hw (by decide) (by decide) rfl rfl 12 (by decide) (hts (.fieldLink RX8 95 "WrongWordModel" "value" "I") ow_X8_advances_95) rfl (by decide +kernel) (Nat.le_of_ble_eq_true rfl) rfl dX8_advances_96 (fun H locs hw => ?_)
          obtain ⟨v12, ev12⟩ : ∃ z, z = up3 w38 30 0 12 (w38 30 0 12) := ⟨_, rfl⟩
          rw [← ev12] at hw
          have hF := hF.trans (kb_some (congrArg some ev12.symm) _)
          refine lv_aload_n hx hb dX8_advances_99 rfl (lv_at hl 0 rfl) ?_
          refine lv_dup hx hb dX8_advances_100 rfl ?_
          refine km_get (ci := 8) (C := RX8) (T := TX8) (N := 23) (t := 30) (i := 0) hx hb hts fi_X8_advances_X8 hown hK hw (by decide) (by decide) rfl rfl 9 (by decide) (hts (.fieldLink RX8 86 "WrongWordModel" "at" "I") ow_X8_advances_86) rfl dX8_advances_101 ?_
          refine lv_iconst (v := 1) hx hb dX8_advances_104 (by decide) ?_
          refine lv_iadd hx hb dX8_advances_105 ?_
          refine km_put (ci := 8) (C := RX8) (T := TX8) (N := 23) (t := 30) (i := 0) hx hb hts fi_X8_advances_X8 tyX8 tyX8_ok nmX8 hown hK hw (by decide) (by decide) rfl rfl 9 (by decide) (hts (.fieldLink RX8 86 "WrongWordModel" "at" "I") ow_X8_advances_86) rfl (by decide +kernel) (Nat.le_of_ble_eq_true rfl) rfl dX8_advances_106 (fun H locs hw => ?_)
          obtain ⟨v13, ev13⟩ : ∃ z, z = up3 v12 30 0 9 ((v12 30 0 9) + 1) := ⟨_, rfl⟩
          rw [← ev13] at hw
          have hF := hF.trans (kb_some (congrArg some ev13.symm) _)
          refine lv_goto (tgt := 38) hx hb dX8_advances_109 (by decide) ?_
          have hl := lv_sub (l' := [(0, .ref (Z.1 30 0)), (1, .int x1_38)]) hl [0, 1] rfl
          exact ih38 v13 x1_38 _ _ _ hF hw hl
        · skip
          have hF := hF.trans (if_neg c11)
          refine lv_bipush (v := 10) hx hb dX8_advances_70 (by decide) ?_
          refine lv_aload_n hx hb dX8_advances_72 rfl (lv_at hl 0 rfl) ?_
          refine km_get (ci := 8) (C := RX8) (T := TX8) (N := 23) (t := 30) (i := 0) hx hb hts fi_X8_advances_X8 hown hK hw (by decide) (by decide) rfl rfl 12 (by decide) (hts (.fieldLink RX8 95 "WrongWordModel" "value" "I") ow_X8_advances_95) rfl dX8_advances_73 ?_
          refine lv_imul hx hb dX8_advances_76 ?_
          refine lv_aload_n hx hb dX8_advances_77 rfl (lv_at hl 0 rfl) ?_
          refine lv_aload_n hx hb dX8_advances_78 rfl (lv_at hl 0 rfl) ?_
          refine km_get (ci := 8) (C := RX8) (T := TX8) (N := 23) (t := 30) (i := 0) hx hb hts fi_X8_advances_X8 hown hK hw (by decide) (by decide) rfl rfl 9 (by decide) (hts (.fieldLink RX8 86 "WrongWordModel" "at" "I") ow_X8_advances_86) rfl dX8_advances_79 ?_
          have hs14 : g_X8_byteAt w38 (w38 30 0 9) ≠ none := fun q => hs (hF.trans (kb_n q _))
          refine km_cI (As := [.int (w38 30 0 9)]) (rest := [.int ((10 : Int32) * (w38 30 0 12)), .ref (Z.1 30 0)]) (n := 1) (q := (RX8, TX8, 23)) (ci := 8) (t := 30) (i := 0) ⟨hx, hb, hml, hown, hts⟩ (d_X8_byteAt l E Z w38 (w38 30 0 9) hs14) gX8_advances_X8_byteAt rfl hV_X8_byteAt ⟨Nat.le_of_ble_eq_true rfl, Nat.le_of_ble_eq_true rfl⟩ hK hw (by decide) (by decide) rfl rfl rfl hl.1 rfl (Nat.le_of_ble_eq_true rfl) dX8_advances_82 rfl rfl (fun r15 v16 H locs hp hw => ?_)
          obtain ⟨hp, rfl⟩ := hp
          have hF := hF.trans (kb_some hp _)
          refine lv_iadd hx hb dX8_advances_85 ?_
          refine lv_bipush (v := 48) hx hb dX8_advances_86 (by decide) ?_
          refine lv_isub hx hb dX8_advances_88 ?_
          refine lv_goto (tgt := 96) hx hb dX8_advances_89 (by decide) ?_
          refine km_put (ci := 8) (C := RX8) (T := TX8) (N := 23) (t := 30) (i := 0) hx hb hts fi_X8_advances_X8 tyX8 tyX8_ok nmX8 hown hK hw (by decide) (by decide) rfl rfl 12 (by decide) (hts (.fieldLink RX8 95 "WrongWordModel" "value" "I") ow_X8_advances_95) rfl (by decide +kernel) (Nat.le_of_ble_eq_true rfl) rfl dX8_advances_96 (fun H locs hw => ?_)
          obtain ⟨v17, ev17⟩ : ∃ z, z = up3 w38 30 0 12 ((((10 : Int32) * (w38 30 0 12)) + r15) - 48) := ⟨_, rfl⟩
          rw [← ev17] at hw
          have hF := hF.trans (kb_some (congrArg some ev17.symm) _)
          refine lv_aload_n hx hb dX8_advances_99 rfl (lv_at hl 0 rfl) ?_
          refine lv_dup hx hb dX8_advances_100 rfl ?_
          refine km_get (ci := 8) (C := RX8) (T := TX8) (N := 23) (t := 30) (i := 0) hx hb hts fi_X8_advances_X8 hown hK hw (by decide) (by decide) rfl rfl 9 (by decide) (hts (.fieldLink RX8 86 "WrongWordModel" "at" "I") ow_X8_advances_86) rfl dX8_advances_101 ?_
          refine lv_iconst (v := 1) hx hb dX8_advances_104 (by decide) ?_
          refine lv_iadd hx hb dX8_advances_105 ?_
          refine km_put (ci := 8) (C := RX8) (T := TX8) (N := 23) (t := 30) (i := 0) hx hb hts fi_X8_advances_X8 tyX8 tyX8_ok nmX8 hown hK hw (by decide) (by decide) rfl rfl 9 (by decide) (hts (.fieldLink RX8 86 "WrongWordModel" "at" "I") ow_X8_advances_86) rfl (by decide +kernel) (Nat.le_of_ble_eq_true rfl) rfl dX8_advances_106 (fun H locs hw => ?_)
          obtain ⟨v18, ev18⟩ : ∃ z, z = up3 v17 30 0 9 ((v17 30 0 9) + 1) := ⟨_, rfl⟩
          rw [← ev18] at hw
          have hF := hF.trans (kb_some (congrArg some ev18.symm) _)
          refine lv_goto (tgt := 38) hx hb dX8_advances_109 (by decide) ?_
          have hl := lv_sub (l' := [(0, .ref (Z.1 30 0)), (1, .int x1_38)]) hl [0, 1] rfl
          exact ih38 v18 x1_38 _ _ _ hF hw hl
  refine lv_aload_n hx hb dX8_advances_0 rfl (lv_at hl 0 rfl) ?_
  refine lv_aload_n hx hb dX8_advances_1 rfl (lv_at hl 0 rfl) ?_
  refine km_get (ci := 8) (C := RX8) (T := TX8) (N := 23) (t := 30) (i := 0) hx hb hts fi_X8_advances_X8 hown hK hw (by decide) (by decide) rfl rfl 9 (by decide) (hts (.fieldLink RX8 86 "WrongWordModel" "at" "I") ow_X8_advances_86) rfl dX8_advances_2 ?_
  refine km_put (ci := 8) (C := RX8) (T := TX8) (N := 23) (t := 30) (i := 0) hx hb hts fi_X8_advances_X8 tyX8 tyX8_ok nmX8 hown hK hw (by decide) (by decide) rfl rfl 10 (by decide) (hts (.fieldLink RX8 89 "WrongWordModel" "start" "I") ow_X8_advances_89) rfl (by decide +kernel) (Nat.le_of_ble_eq_true rfl) rfl dX8_advances_5 (fun H locs hw => ?_)
  obtain ⟨v19, ev19⟩ : ∃ z, z = up3 v 30 0 10 (v 30 0 9) := ⟨_, rfl⟩
  rw [← ev19] at hw
  have hF := hF.trans (kb_some (congrArg some ev19.symm) _)
  refine lv_aload_n hx hb dX8_advances_8 rfl (lv_at hl 0 rfl) ?_
  refine lv_aload_n hx hb dX8_advances_9 rfl (lv_at hl 0 rfl) ?_
  refine km_get (ci := 8) (C := RX8) (T := TX8) (N := 23) (t := 30) (i := 0) hx hb hts fi_X8_advances_X8 hown hK hw (by decide) (by decide) rfl rfl 9 (by decide) (hts (.fieldLink RX8 86 "WrongWordModel" "at" "I") ow_X8_advances_86) rfl dX8_advances_10 ?_
  have hs20 : g_X8_byteAt v19 (v19 30 0 9) ≠ none := fun q => hs (hF.trans (kb_n q _))
  refine km_cI (As := [.int (v19 30 0 9)]) (rest := []) (n := 1) (q := (RX8, TX8, 23)) (ci := 8) (t := 30) (i := 0) ⟨hx, hb, hml, hown, hts⟩ (d_X8_byteAt l E Z v19 (v19 30 0 9) hs20) gX8_advances_X8_byteAt rfl hV_X8_byteAt ⟨Nat.le_of_ble_eq_true rfl, Nat.le_of_ble_eq_true rfl⟩ hK hw (by decide) (by decide) rfl rfl rfl hl.1 rfl (Nat.le_of_ble_eq_true rfl) dX8_advances_13 rfl rfl (fun r21 v22 H locs hp hw => ?_)
  obtain ⟨hp, rfl⟩ := hp
  have hF := hF.trans (kb_some hp _)
  refine lv_istore_n (lv' := [(1, .int r21), (0, .ref (Z.1 30 0))]) hx hb dX8_advances_16 rfl hl (by decide) rfl (fun ls hl => ?_)
  refine lv_aload_n hx hb dX8_advances_17 rfl (lv_at hl 1 rfl) ?_
  refine lv_iload_n hx hb dX8_advances_18 rfl (lv_at hl 0 rfl) ?_
  refine km_put (ci := 8) (C := RX8) (T := TX8) (N := 23) (t := 30) (i := 0) hx hb hts fi_X8_advances_X8 tyX8 tyX8_ok nmX8 hown hK hw (by decide) (by decide) rfl rfl 12 (by decide) (hts (.fieldLink RX8 95 "WrongWordModel" "value" "I") ow_X8_advances_95) rfl (by decide +kernel) (Nat.le_of_ble_eq_true rfl) rfl dX8_advances_19 (fun H locs hw => ?_)
  obtain ⟨v23, ev23⟩ : ∃ z, z = up3 v19 30 0 12 r21 := ⟨_, rfl⟩
  rw [← ev23] at hw
  have hF := hF.trans (kb_some (congrArg some ev23.symm) _)
  refine lv_iload_n hx hb dX8_advances_22 rfl (lv_at hl 0 rfl) ?_
  refine lv_bipush (v := 48) hx hb dX8_advances_23 (by decide) ?_
  refine lv_bipush (v := 57) hx hb dX8_advances_25 (by decide) ?_
  have hs24 : g_X8_in v23 r21 48 57 ≠ none := fun q => hs (hF.trans (kb_n q _))
  refine km_cS (As := [.int r21, .int 48, .int 57]) (rest := []) (n := 3) ⟨hx, hb, hml, hown, hts⟩ (d_X8_in l E Z v23 r21 48 57 hs24) gX8_advances_X8_in rfl hV_X8_in ⟨Nat.le_of_ble_eq_true rfl, Nat.le_of_ble_eq_true rfl⟩ hK hw rfl hl.1 rfl (Nat.le_of_ble_eq_true rfl) dX8_advances_27 rfl rfl (fun r25 v26 H locs hp hw => ?_)
  obtain ⟨hp, hzr25⟩ := hp
  obtain ⟨hp, rfl⟩ := hp
  have hF := hF.trans (kb_some hp _)
  refine lv_if_eq (tgt := 135) hx hb dX8_advances_30 (by decide) (fun c27 => ?_) (fun c27 => ?_)
  · skip
    have hF := hF.trans (if_pos c27)
    refine lv_aload_n hx hb dX8_advances_135 rfl (lv_at hl 1 rfl) ?_
    refine lv_iload_n hx hb dX8_advances_136 rfl (lv_at hl 0 rfl) ?_
    refine lv_if_ge (tgt := 144) hx hb dX8_advances_137 (by decide) (fun c28 => ?_) (fun c28 => ?_)
    · skip
      have hF := hF.trans (if_pos c28)
      refine lv_iload_n hx hb dX8_advances_144 rfl (lv_at hl 0 rfl) ?_
      refine lv_bipush (v := 97) hx hb dX8_advances_145 (by decide) ?_
      refine lv_bipush (v := 122) hx hb dX8_advances_147 (by decide) ?_
      have hs29 : g_X8_in v23 r21 97 122 ≠ none := fun q => hs (hF.trans (kb_n q _))
      refine km_cS (As := [.int r21, .int 97, .int 122]) (rest := [.ref (Z.1 30 0)]) (n := 3) ⟨hx, hb, hml, hown, hts⟩ (d_X8_in l E Z v23 r21 97 122 hs29) gX8_advances_X8_in rfl hV_X8_in ⟨Nat.le_of_ble_eq_true rfl, Nat.le_of_ble_eq_true rfl⟩ hK hw rfl hl.1 rfl (Nat.le_of_ble_eq_true rfl) dX8_advances_149 rfl rfl (fun r30 v31 H locs hp hw => ?_)
      obtain ⟨hp, hzr30⟩ := hp
      obtain ⟨hp, rfl⟩ := hp
      have hF := hF.trans (kb_some hp _)
      refine lv_if_eq (tgt := 159) hx hb dX8_advances_152 (by decide) (fun c32 => ?_) (fun c32 => ?_)
      · skip
        have hF := hF.trans (if_pos c32)
        refine lv_iload_n hx hb dX8_advances_159 rfl (lv_at hl 0 rfl) ?_
        refine lv_bipush (v := 44) hx hb dX8_advances_160 (by decide) ?_
        refine lv_icmp_ne (tgt := 169) hx hb dX8_advances_162 (by decide) (fun c33 => ?_) (fun c33 => ?_)
        · skip
          have hF := hF.trans (if_neg c33)
          refine lv_iload_n hx hb dX8_advances_169 rfl (lv_at hl 0 rfl) ?_
          refine lv_bipush (v := 59) hx hb dX8_advances_170 (by decide) ?_
          refine lv_icmp_ne (tgt := 179) hx hb dX8_advances_172 (by decide) (fun c34 => ?_) (fun c34 => ?_)
          · skip
            have hF := hF.trans (if_neg c34)
            refine lv_iconst (v := 5) hx hb dX8_advances_179 (by decide) ?_
            refine km_put (ci := 8) (C := RX8) (T := TX8) (N := 23) (t := 30) (i := 0) hx hb hts fi_X8_advances_X8 tyX8 tyX8_ok nmX8 hown hK hw (by decide) (by decide) rfl rfl 11 (by decide) (hts (.fieldLink RX8 98 "WrongWordModel" "token" "I") ow_X8_advances_98) rfl (by decide +kernel) (Nat.le_of_ble_eq_true rfl) rfl dX8_advances_180 (fun H locs hw => ?_)
            obtain ⟨v35, ev35⟩ : ∃ z, z = up3 v23 30 0 11 5 := ⟨_, rfl⟩
            rw [← ev35] at hw
            have hF := hF.trans (kb_some (congrArg some ev35.symm) _)
            refine lv_aload_n hx hb dX8_advances_183 rfl (lv_at hl 1 rfl) ?_
            refine lv_dup hx hb dX8_advances_184 rfl ?_
            refine km_get (ci := 8) (C := RX8) (T := TX8) (N := 23) (t := 30) (i := 0) hx hb hts fi_X8_advances_X8 hown hK hw (by decide) (by decide) rfl rfl 9 (by decide) (hts (.fieldLink RX8 86 "WrongWordModel" "at" "I") ow_X8_advances_86) rfl dX8_advances_185 ?_
            refine lv_aload_n hx hb dX8_advances_188 rfl (lv_at hl 1 rfl) ?_
            refine km_get (ci := 8) (C := RX8) (T := TX8) (N := 23) (t := 30) (i := 0) hx hb hts fi_X8_advances_X8 hown hK hw (by decide) (by decide) rfl rfl 11 (by decide) (hts (.fieldLink RX8 98 "WrongWordModel" "token" "I") ow_X8_advances_98) rfl dX8_advances_189 ?_
            refine lv_if_ne (tgt := 199) hx hb dX8_advances_192 (by decide) (fun c36 => ?_) (fun c36 => ?_)
            · skip
              have hF := hF.trans (if_neg c36)
              refine lv_iconst (v := 1) hx hb dX8_advances_199 (by decide) ?_
              refine lv_iadd hx hb dX8_advances_200 ?_
              refine km_put (ci := 8) (C := RX8) (T := TX8) (N := 23) (t := 30) (i := 0) hx hb hts fi_X8_advances_X8 tyX8 tyX8_ok nmX8 hown hK hw (by decide) (by decide) rfl rfl 9 (by decide) (hts (.fieldLink RX8 86 "WrongWordModel" "at" "I") ow_X8_advances_86) rfl (by decide +kernel) (Nat.le_of_ble_eq_true rfl) rfl dX8_advances_201 (fun H locs hw => ?_)
              obtain ⟨v37, ev37⟩ : ∃ z, z = up3 v35 30 0 9 ((v35 30 0 9) + 1) := ⟨_, rfl⟩
              rw [← ev37] at hw
              have hF := hF.trans (kb_some (congrArg some ev37.symm) _)
              exact hret _ _ _ _ _ hw dX8_advances_204 hF
            · skip
              have hF := hF.trans (if_pos c36)
              refine lv_iconst (v := 0) hx hb dX8_advances_195 (by decide) ?_
              refine lv_goto (tgt := 200) hx hb dX8_advances_196 (by decide) ?_
              refine lv_iadd hx hb dX8_advances_200 ?_
              refine km_put (ci := 8) (C := RX8) (T := TX8) (N := 23) (t := 30) (i := 0) hx hb hts fi_X8_advances_X8 tyX8 tyX8_ok nmX8 hown hK hw (by decide) (by decide) rfl rfl 9 (by decide) (hts (.fieldLink RX8 86 "WrongWordModel" "at" "I") ow_X8_advances_86) rfl (by decide +kernel) (Nat.le_of_ble_eq_true rfl) rfl dX8_advances_201 (fun H locs hw => ?_)
              obtain ⟨v38, ev38⟩ : ∃ z, z = up3 v35 30 0 9 ((v35 30 0 9) + 0) := ⟨_, rfl⟩
              rw [← ev38] at hw
              have hF := hF.trans (kb_some (congrArg some ev38.symm) _)
              exact hret _ _ _ _ _ hw dX8_advances_204 hF
          · skip
            have hF := hF.trans (if_pos c34)
            refine lv_iconst (v := 4) hx hb dX8_advances_175 (by decide) ?_
            refine lv_goto (tgt := 180) hx hb dX8_advances_176 (by decide) ?_
            refine km_put (ci := 8) (C := RX8) (T := TX8) (N := 23) (t := 30) (i := 0) hx hb hts fi_X8_advances_X8 tyX8 tyX8_ok nmX8 hown hK hw (by decide) (by decide) rfl rfl 11 (by decide) (hts (.fieldLink RX8 98 "WrongWordModel" "token" "I") ow_X8_advances_98) rfl (by decide +kernel) (Nat.le_of_ble_eq_true rfl) rfl dX8_advances_180 (fun H locs hw => ?_)
            obtain ⟨v39, ev39⟩ : ∃ z, z = up3 v23 30 0 11 4 := ⟨_, rfl⟩
            rw [← ev39] at hw
            have hF := hF.trans (kb_some (congrArg some ev39.symm) _)
            refine lv_aload_n hx hb dX8_advances_183 rfl (lv_at hl 1 rfl) ?_
            refine lv_dup hx hb dX8_advances_184 rfl ?_
            refine km_get (ci := 8) (C := RX8) (T := TX8) (N := 23) (t := 30) (i := 0) hx hb hts fi_X8_advances_X8 hown hK hw (by decide) (by decide) rfl rfl 9 (by decide) (hts (.fieldLink RX8 86 "WrongWordModel" "at" "I") ow_X8_advances_86) rfl dX8_advances_185 ?_
            refine lv_aload_n hx hb dX8_advances_188 rfl (lv_at hl 1 rfl) ?_
            refine km_get (ci := 8) (C := RX8) (T := TX8) (N := 23) (t := 30) (i := 0) hx hb hts fi_X8_advances_X8 hown hK hw (by decide) (by decide) rfl rfl 11 (by decide) (hts (.fieldLink RX8 98 "WrongWordModel" "token" "I") ow_X8_advances_98) rfl dX8_advances_189 ?_
            refine lv_if_ne (tgt := 199) hx hb dX8_advances_192 (by decide) (fun c40 => ?_) (fun c40 => ?_)
            · skip
              have hF := hF.trans (if_neg c40)
              refine lv_iconst (v := 1) hx hb dX8_advances_199 (by decide) ?_
              refine lv_iadd hx hb dX8_advances_200 ?_
              refine km_put (ci := 8) (C := RX8) (T := TX8) (N := 23) (t := 30) (i := 0) hx hb hts fi_X8_advances_X8 tyX8 tyX8_ok nmX8 hown hK hw (by decide) (by decide) rfl rfl 9 (by decide) (hts (.fieldLink RX8 86 "WrongWordModel" "at" "I") ow_X8_advances_86) rfl (by decide +kernel) (Nat.le_of_ble_eq_true rfl) rfl dX8_advances_201 (fun H locs hw => ?_)
              obtain ⟨v41, ev41⟩ : ∃ z, z = up3 v39 30 0 9 ((v39 30 0 9) + 1) := ⟨_, rfl⟩
              rw [← ev41] at hw
              have hF := hF.trans (kb_some (congrArg some ev41.symm) _)
              exact hret _ _ _ _ _ hw dX8_advances_204 hF
            · skip
              have hF := hF.trans (if_pos c40)
              refine lv_iconst (v := 0) hx hb dX8_advances_195 (by decide) ?_
              refine lv_goto (tgt := 200) hx hb dX8_advances_196 (by decide) ?_
              refine lv_iadd hx hb dX8_advances_200 ?_
              refine km_put (ci := 8) (C := RX8) (T := TX8) (N := 23) (t := 30) (i := 0) hx hb hts fi_X8_advances_X8 tyX8 tyX8_ok nmX8 hown hK hw (by decide) (by decide) rfl rfl 9 (by decide) (hts (.fieldLink RX8 86 "WrongWordModel" "at" "I") ow_X8_advances_86) rfl (by decide +kernel) (Nat.le_of_ble_eq_true rfl) rfl dX8_advances_201 (fun H locs hw => ?_)
              obtain ⟨v42, ev42⟩ : ∃ z, z = up3 v39 30 0 9 ((v39 30 0 9) + 0) := ⟨_, rfl⟩
              rw [← ev42] at hw
              have hF := hF.trans (kb_some (congrArg some ev42.symm) _)
              exact hret _ _ _ _ _ hw dX8_advances_204 hF
        · skip
          have hF := hF.trans (if_pos c33)
          refine lv_iconst (v := 3) hx hb dX8_advances_165 (by decide) ?_
          refine lv_goto (tgt := 180) hx hb dX8_advances_166 (by decide) ?_
          refine km_put (ci := 8) (C := RX8) (T := TX8) (N := 23) (t := 30) (i := 0) hx hb hts fi_X8_advances_X8 tyX8 tyX8_ok nmX8 hown hK hw (by decide) (by decide) rfl rfl 11 (by decide) (hts (.fieldLink RX8 98 "WrongWordModel" "token" "I") ow_X8_advances_98) rfl (by decide +kernel) (Nat.le_of_ble_eq_true rfl) rfl dX8_advances_180 (fun H locs hw => ?_)
          obtain ⟨v43, ev43⟩ : ∃ z, z = up3 v23 30 0 11 3 := ⟨_, rfl⟩
          rw [← ev43] at hw
          have hF := hF.trans (kb_some (congrArg some ev43.symm) _)
          refine lv_aload_n hx hb dX8_advances_183 rfl (lv_at hl 1 rfl) ?_
          refine lv_dup hx hb dX8_advances_184 rfl ?_
          refine km_get (ci := 8) (C := RX8) (T := TX8) (N := 23) (t := 30) (i := 0) hx hb hts fi_X8_advances_X8 hown hK hw (by decide) (by decide) rfl rfl 9 (by decide) (hts (.fieldLink RX8 86 "WrongWordModel" "at" "I") ow_X8_advances_86) rfl dX8_advances_185 ?_
          refine lv_aload_n hx hb dX8_advances_188 rfl (lv_at hl 1 rfl) ?_
          refine km_get (ci := 8) (C := RX8) (T := TX8) (N := 23) (t := 30) (i := 0) hx hb hts fi_X8_advances_X8 hown hK hw (by decide) (by decide) rfl rfl 11 (by decide) (hts (.fieldLink RX8 98 "WrongWordModel" "token" "I") ow_X8_advances_98) rfl dX8_advances_189 ?_
          refine lv_if_ne (tgt := 199) hx hb dX8_advances_192 (by decide) (fun c44 => ?_) (fun c44 => ?_)
          · skip
            have hF := hF.trans (if_neg c44)
            refine lv_iconst (v := 1) hx hb dX8_advances_199 (by decide) ?_
            refine lv_iadd hx hb dX8_advances_200 ?_
            refine km_put (ci := 8) (C := RX8) (T := TX8) (N := 23) (t := 30) (i := 0) hx hb hts fi_X8_advances_X8 tyX8 tyX8_ok nmX8 hown hK hw (by decide) (by decide) rfl rfl 9 (by decide) (hts (.fieldLink RX8 86 "WrongWordModel" "at" "I") ow_X8_advances_86) rfl (by decide +kernel) (Nat.le_of_ble_eq_true rfl) rfl dX8_advances_201 (fun H locs hw => ?_)
            obtain ⟨v45, ev45⟩ : ∃ z, z = up3 v43 30 0 9 ((v43 30 0 9) + 1) := ⟨_, rfl⟩
            rw [← ev45] at hw
            have hF := hF.trans (kb_some (congrArg some ev45.symm) _)
            exact hret _ _ _ _ _ hw dX8_advances_204 hF
          · skip
            have hF := hF.trans (if_pos c44)
            refine lv_iconst (v := 0) hx hb dX8_advances_195 (by decide) ?_
            refine lv_goto (tgt := 200) hx hb dX8_advances_196 (by decide) ?_
            refine lv_iadd hx hb dX8_advances_200 ?_
            refine km_put (ci := 8) (C := RX8) (T := TX8) (N := 23) (t := 30) (i := 0) hx hb hts fi_X8_advances_X8 tyX8 tyX8_ok nmX8 hown hK hw (by decide) (by decide) rfl rfl 9 (by decide) (hts (.fieldLink RX8 86 "WrongWordModel" "at" "I") ow_X8_advances_86) rfl (by decide +kernel) (Nat.le_of_ble_eq_true rfl) rfl dX8_advances_201 (fun H locs hw => ?_)
            obtain ⟨v46, ev46⟩ : ∃ z, z = up3 v43 30 0 9 ((v43 30 0 9) + 0) := ⟨_, rfl⟩
            rw [← ev46] at hw
            have hF := hF.trans (kb_some (congrArg some ev46.symm) _)
            exact hret _ _ _ _ _ hw dX8_advances_204 hF
      · skip
        have hF := hF.trans (if_neg c32)
        refine lv_iconst (v := 1) hx hb dX8_advances_155 (by decide) ?_
        refine lv_goto (tgt := 180) hx hb dX8_advances_156 (by decide) ?_
        refine km_put (ci := 8) (C := RX8) (T := TX8) (N := 23) (t := 30) (i := 0) hx hb hts fi_X8_advances_X8 tyX8 tyX8_ok nmX8 hown hK hw (by decide) (by decide) rfl rfl 11 (by decide) (hts (.fieldLink RX8 98 "WrongWordModel" "token" "I") ow_X8_advances_98) rfl (by decide +kernel) (Nat.le_of_ble_eq_true rfl) rfl dX8_advances_180 (fun H locs hw => ?_)
        obtain ⟨v47, ev47⟩ : ∃ z, z = up3 v23 30 0 11 1 := ⟨_, rfl⟩
        rw [← ev47] at hw
        have hF := hF.trans (kb_some (congrArg some ev47.symm) _)
        refine lv_aload_n hx hb dX8_advances_183 rfl (lv_at hl 1 rfl) ?_
        refine lv_dup hx hb dX8_advances_184 rfl ?_
        refine km_get (ci := 8) (C := RX8) (T := TX8) (N := 23) (t := 30) (i := 0) hx hb hts fi_X8_advances_X8 hown hK hw (by decide) (by decide) rfl rfl 9 (by decide) (hts (.fieldLink RX8 86 "WrongWordModel" "at" "I") ow_X8_advances_86) rfl dX8_advances_185 ?_
        refine lv_aload_n hx hb dX8_advances_188 rfl (lv_at hl 1 rfl) ?_
        refine km_get (ci := 8) (C := RX8) (T := TX8) (N := 23) (t := 30) (i := 0) hx hb hts fi_X8_advances_X8 hown hK hw (by decide) (by decide) rfl rfl 11 (by decide) (hts (.fieldLink RX8 98 "WrongWordModel" "token" "I") ow_X8_advances_98) rfl dX8_advances_189 ?_
        refine lv_if_ne (tgt := 199) hx hb dX8_advances_192 (by decide) (fun c48 => ?_) (fun c48 => ?_)
        · skip
          have hF := hF.trans (if_neg c48)
          refine lv_iconst (v := 1) hx hb dX8_advances_199 (by decide) ?_
          refine lv_iadd hx hb dX8_advances_200 ?_
          refine km_put (ci := 8) (C := RX8) (T := TX8) (N := 23) (t := 30) (i := 0) hx hb hts fi_X8_advances_X8 tyX8 tyX8_ok nmX8 hown hK hw (by decide) (by decide) rfl rfl 9 (by decide) (hts (.fieldLink RX8 86 "WrongWordModel" "at" "I") ow_X8_advances_86) rfl (by decide +kernel) (Nat.le_of_ble_eq_true rfl) rfl dX8_advances_201 (fun H locs hw => ?_)
          obtain ⟨v49, ev49⟩ : ∃ z, z = up3 v47 30 0 9 ((v47 30 0 9) + 1) := ⟨_, rfl⟩
          rw [← ev49] at hw
          have hF := hF.trans (kb_some (congrArg some ev49.symm) _)
          exact hret _ _ _ _ _ hw dX8_advances_204 hF
        · skip
          have hF := hF.trans (if_pos c48)
          refine lv_iconst (v := 0) hx hb dX8_advances_195 (by decide) ?_
          refine lv_goto (tgt := 200) hx hb dX8_advances_196 (by decide) ?_
          refine lv_iadd hx hb dX8_advances_200 ?_
          refine km_put (ci := 8) (C := RX8) (T := TX8) (N := 23) (t := 30) (i := 0) hx hb hts fi_X8_advances_X8 tyX8 tyX8_ok nmX8 hown hK hw (by decide) (by decide) rfl rfl 9 (by decide) (hts (.fieldLink RX8 86 "WrongWordModel" "at" "I") ow_X8_advances_86) rfl (by decide +kernel) (Nat.le_of_ble_eq_true rfl) rfl dX8_advances_201 (fun H locs hw => ?_)
          obtain ⟨v50, ev50⟩ : ∃ z, z = up3 v47 30 0 9 ((v47 30 0 9) + 0) := ⟨_, rfl⟩
          rw [← ev50] at hw
          have hF := hF.trans (kb_some (congrArg some ev50.symm) _)
          exact hret _ _ _ _ _ hw dX8_advances_204 hF
    · skip
      have hF := hF.trans (if_neg c28)
      refine lv_iconst (v := 0) hx hb dX8_advances_140 (by decide) ?_
      refine lv_goto (tgt := 180) hx hb dX8_advances_141 (by decide) ?_
      refine km_put (ci := 8) (C := RX8) (T := TX8) (N := 23) (t := 30) (i := 0) hx hb hts fi_X8_advances_X8 tyX8 tyX8_ok nmX8 hown hK hw (by decide) (by decide) rfl rfl 11 (by decide) (hts (.fieldLink RX8 98 "WrongWordModel" "token" "I") ow_X8_advances_98) rfl (by decide +kernel) (Nat.le_of_ble_eq_true rfl) rfl dX8_advances_180 (fun H locs hw => ?_)
      obtain ⟨v51, ev51⟩ : ∃ z, z = up3 v23 30 0 11 0 := ⟨_, rfl⟩
      rw [← ev51] at hw
      have hF := hF.trans (kb_some (congrArg some ev51.symm) _)
      refine lv_aload_n hx hb dX8_advances_183 rfl (lv_at hl 1 rfl) ?_
      refine lv_dup hx hb dX8_advances_184 rfl ?_
      refine km_get (ci := 8) (C := RX8) (T := TX8) (N := 23) (t := 30) (i := 0) hx hb hts fi_X8_advances_X8 hown hK hw (by decide) (by decide) rfl rfl 9 (by decide) (hts (.fieldLink RX8 86 "WrongWordModel" "at" "I") ow_X8_advances_86) rfl dX8_advances_185 ?_
      refine lv_aload_n hx hb dX8_advances_188 rfl (lv_at hl 1 rfl) ?_
      refine km_get (ci := 8) (C := RX8) (T := TX8) (N := 23) (t := 30) (i := 0) hx hb hts fi_X8_advances_X8 hown hK hw (by decide) (by decide) rfl rfl 11 (by decide) (hts (.fieldLink RX8 98 "WrongWordModel" "token" "I") ow_X8_advances_98) rfl dX8_advances_189 ?_
      refine lv_if_ne (tgt := 199) hx hb dX8_advances_192 (by decide) (fun c52 => ?_) (fun c52 => ?_)
      · skip
        have hF := hF.trans (if_neg c52)
        refine lv_iconst (v := 1) hx hb dX8_advances_199 (by decide) ?_
        refine lv_iadd hx hb dX8_advances_200 ?_
        refine km_put (ci := 8) (C := RX8) (T := TX8) (N := 23) (t := 30) (i := 0) hx hb hts fi_X8_advances_X8 tyX8 tyX8_ok nmX8 hown hK hw (by decide) (by decide) rfl rfl 9 (by decide) (hts (.fieldLink RX8 86 "WrongWordModel" "at" "I") ow_X8_advances_86) rfl (by decide +kernel) (Nat.le_of_ble_eq_true rfl) rfl dX8_advances_201 (fun H locs hw => ?_)
        obtain ⟨v53, ev53⟩ : ∃ z, z = up3 v51 30 0 9 ((v51 30 0 9) + 1) := ⟨_, rfl⟩
        rw [← ev53] at hw
        have hF := hF.trans (kb_some (congrArg some ev53.symm) _)
        exact hret _ _ _ _ _ hw dX8_advances_204 hF
      · skip
        have hF := hF.trans (if_pos c52)
        refine lv_iconst (v := 0) hx hb dX8_advances_195 (by decide) ?_
        refine lv_goto (tgt := 200) hx hb dX8_advances_196 (by decide) ?_
        refine lv_iadd hx hb dX8_advances_200 ?_
        refine km_put (ci := 8) (C := RX8) (T := TX8) (N := 23) (t := 30) (i := 0) hx hb hts fi_X8_advances_X8 tyX8 tyX8_ok nmX8 hown hK hw (by decide) (by decide) rfl rfl 9 (by decide) (hts (.fieldLink RX8 86 "WrongWordModel" "at" "I") ow_X8_advances_86) rfl (by decide +kernel) (Nat.le_of_ble_eq_true rfl) rfl dX8_advances_201 (fun H locs hw => ?_)
        obtain ⟨v54, ev54⟩ : ∃ z, z = up3 v51 30 0 9 ((v51 30 0 9) + 0) := ⟨_, rfl⟩
        rw [← ev54] at hw
        have hF := hF.trans (kb_some (congrArg some ev54.symm) _)
        exact hret _ _ _ _ _ hw dX8_advances_204 hF
  · skip
    have hF := hF.trans (if_neg c27)
    refine lv_aload_n hx hb dX8_advances_33 rfl (lv_at hl 1 rfl) ?_
    refine lv_iconst (v := 0) hx hb dX8_advances_34 (by decide) ?_
    refine km_put (ci := 8) (C := RX8) (T := TX8) (N := 23) (t := 30) (i := 0) hx hb hts fi_X8_advances_X8 tyX8 tyX8_ok nmX8 hown hK hw (by decide) (by decide) rfl rfl 12 (by decide) (hts (.fieldLink RX8 95 "WrongWordModel" "value" "I") ow_X8_advances_95) rfl (by decide +kernel) (Nat.le_of_ble_eq_true rfl) rfl dX8_advances_35 (fun H locs hw => ?_)
    obtain ⟨v55, ev55⟩ : ∃ z, z = up3 v23 30 0 12 0 := ⟨_, rfl⟩
    rw [← ev55] at hw
    have hF := hF.trans (kb_some (congrArg some ev55.symm) _)
    have hl := lv_sub (l' := [(0, .ref (Z.1 30 0)), (1, .int r21)]) hl [1, 0] rfl
    exact loop38 2000 v55 r21 _ _ _ hF hw hl
abbrev rmX8_isWell : Room := { frames := 0, cells := 0, slots := 0, locals := 0 }
def g_X8_isWell (v : Mm)  : Option (Int32) := if 0 ≤ v 30 0 8 then (some 0) else (some 1)
set_option maxHeartbeats 4000000 in
set_option maxRecDepth 100000 in
theorem d_X8_isWell (l : Launch) (E : kq_T) (Z : km_Z) (v : Mm) (hs : g_X8_isWell v ≠ none) : km_I l E Z cntM yX8_isWell wsX8_isWell rmX8_isWell [.ref (Z.1 30 0)] v (fun r v1 => (g_X8_isWell v = some r ∧ v = v1) ∧ (r = 0 ∨ r = 1)) := by
  refine km_goZ (cc := cX8_isWell) (maxL := 1) (post := fun r v1 => g_X8_isWell v = some r ∧ v = v1) (by decide) rfl (Nat.le_of_ble_eq_true rfl) rfl rfl rfl ?_
  intro p e s m below meth c A ls Q C hK hw hl hret
  obtain ⟨hx, hb, hml, hown, hts, -, -, -⟩ := C
  have hown : s.vm.findClass RX8 = some m.cls := hown
  have hl : lv_has ls 1 [(0, .ref (Z.1 30 0))] := hl
  have hF := g_X8_isWell.eq_1 v 
  refine lv_aload_n hx hb dX8_isWell_0 rfl (lv_at hl 0 rfl) ?_
  refine km_get (ci := 8) (C := RX8) (T := TX8) (N := 23) (t := 30) (i := 0) hx hb hts fi_X8_isWell_X8 hown hK hw (by decide) (by decide) rfl rfl 8 (by decide) (hts (.fieldLink RX8 101 "WrongWordModel" "faultPlace" "I") ow_X8_isWell_101) rfl dX8_isWell_1 ?_
  refine lv_if_ge (tgt := 11) hx hb dX8_isWell_4 (by decide) (fun c1 => ?_) (fun c1 => ?_)
  · skip
    have hF := hF.trans (if_pos c1)
    refine lv_iconst (v := 0) hx hb dX8_isWell_11 (by decide) ?_
    exact hret _ _ _ _ _ _ hw dX8_isWell_12 (Or.inl rfl) ⟨hF, rfl⟩
  · skip
    have hF := hF.trans (if_neg c1)
    refine lv_iconst (v := 1) hx hb dX8_isWell_7 (by decide) ?_
    refine lv_goto (tgt := 12) hx hb dX8_isWell_8 (by decide) ?_
    exact hret _ _ _ _ _ _ hw dX8_isWell_12 (Or.inr rfl) ⟨hF, rfl⟩
abbrev rmX8_takes : Room := { frames := 2, cells := 0, slots := 0, locals := 43 }
def g_X8_takes (v : Mm) (a1 : Int32) (a2 : Int32) : Option (Int32 × Mm) := Option.bind (g_X8_isWell v) (fun r2 => if r2 = 0 then (some (0, v)) else (if a1 = 0 then (Option.bind (some (up3 v 30 0 8 (v 30 0 10))) (fun v9 => Option.bind (some (up3 v9 30 0 7 a2)) (fun v10 => some (0, v10)))) else (Option.bind (g_X8_advances v) (fun v8 => some (v 30 0 12, v8)))))
set_option maxHeartbeats 4000000 in
set_option maxRecDepth 100000 in
theorem d_X8_takes (l : Launch) (E : kq_T) (Z : km_Z) (v : Mm) (a1 : Int32) (a2 : Int32) (hs : g_X8_takes v a1 a2 ≠ none) : km_I l E Z cntM yX8_takes wsX8_takes rmX8_takes [.ref (Z.1 30 0), .int a1, .int a2] v (fun r v1 => g_X8_takes v a1 a2 = some (r, v1)) := by
  refine km_goI (cc := cX8_takes) (maxL := 4) (by decide) rfl (Nat.le_of_ble_eq_true rfl) rfl rfl rfl ?_
  intro p e s m below meth c A ls Q C hK hw hl hret
  obtain ⟨hx, hb, hml, hown, hts, -, -, -⟩ := C
  have hown : s.vm.findClass RX8 = some m.cls := hown
  have hl : lv_has ls 4 [(0, .ref (Z.1 30 0)), (1, .int a1), (2, .int a2)] := hl
  have hF := g_X8_takes.eq_1 v a1 a2
  refine lv_aload_n hx hb dX8_takes_0 rfl (lv_at hl 0 rfl) ?_
  have hs1 : g_X8_isWell v ≠ none := fun q => hs (hF.trans (kb_n q _))
  refine km_cI (As := []) (rest := []) (n := 0) (q := (RX8, TX8, 23)) (ci := 8) (t := 30) (i := 0) ⟨hx, hb, hml, hown, hts⟩ (d_X8_isWell l E Z v  hs1) gX8_takes_X8_isWell rfl hV_X8_isWell ⟨Nat.le_of_ble_eq_true rfl, Nat.le_of_ble_eq_true rfl⟩ hK hw (by decide) (by decide) rfl rfl rfl hl.1 rfl (Nat.le_of_ble_eq_true rfl) dX8_takes_1 rfl rfl (fun r2 v3 H locs hp hw => ?_)
  obtain ⟨hp, hzr2⟩ := hp
  obtain ⟨hp, rfl⟩ := hp
  have hF := hF.trans (kb_some hp _)
  refine lv_if_ne (tgt := 9) hx hb dX8_takes_4 (by decide) (fun c4 => ?_) (fun c4 => ?_)
  · skip
    have hF := hF.trans (if_neg c4)
    refine lv_iload_n hx hb dX8_takes_9 rfl (lv_at hl 1 rfl) ?_
    refine lv_if_ne (tgt := 28) hx hb dX8_takes_10 (by decide) (fun c5 => ?_) (fun c5 => ?_)
    · skip
      have hF := hF.trans (if_neg c5)
      refine lv_aload_n hx hb dX8_takes_28 rfl (lv_at hl 0 rfl) ?_
      refine km_get (ci := 8) (C := RX8) (T := TX8) (N := 23) (t := 30) (i := 0) hx hb hts fi_X8_takes_X8 hown hK hw (by decide) (by decide) rfl rfl 12 (by decide) (hts (.fieldLink RX8 95 "WrongWordModel" "value" "I") ow_X8_takes_95) rfl dX8_takes_29 ?_
      refine lv_istore_n (lv' := [(3, .int (v 30 0 12)), (0, .ref (Z.1 30 0)), (1, .int a1), (2, .int a2)]) hx hb dX8_takes_32 rfl hl (by decide) rfl (fun ls hl => ?_)
      refine lv_aload_n hx hb dX8_takes_33 rfl (lv_at hl 1 rfl) ?_
      have hs6 : g_X8_advances v ≠ none := fun q => hs (hF.trans (kb_n q _))
      refine km_cV (As := []) (rest := []) (n := 0) (q := (RX8, TX8, 23)) (ci := 8) (t := 30) (i := 0) ⟨hx, hb, hml, hown, hts⟩ (d_X8_advances l E Z v  hs6) gX8_takes_X8_advances rfl hV_X8_advances ⟨Nat.le_of_ble_eq_true rfl, Nat.le_of_ble_eq_true rfl⟩ hK hw (by decide) (by decide) rfl rfl rfl hl.1 rfl (Nat.le_of_ble_eq_true rfl) dX8_takes_34 rfl rfl (fun v8 H locs hp hw => ?_)
      have hF := hF.trans (kb_some hp _)
      refine lv_iload_n hx hb dX8_takes_37 rfl (lv_at hl 0 rfl) ?_
      exact hret _ _ _ _ _ _ hw dX8_takes_38 hF
    · skip
      have hF := hF.trans (if_pos c5)
      refine lv_aload_n hx hb dX8_takes_13 rfl (lv_at hl 0 rfl) ?_
      refine lv_aload_n hx hb dX8_takes_14 rfl (lv_at hl 0 rfl) ?_
      refine km_get (ci := 8) (C := RX8) (T := TX8) (N := 23) (t := 30) (i := 0) hx hb hts fi_X8_takes_X8 hown hK hw (by decide) (by decide) rfl rfl 10 (by decide) (hts (.fieldLink RX8 89 "WrongWordModel" "start" "I") ow_X8_takes_89) rfl dX8_takes_15 ?_
      refine km_put (ci := 8) (C := RX8) (T := TX8) (N := 23) (t := 30) (i := 0) hx hb hts fi_X8_takes_X8 tyX8 tyX8_ok nmX8 hown hK hw (by decide) (by decide) rfl rfl 8 (by decide) (hts (.fieldLink RX8 101 "WrongWordModel" "faultPlace" "I") ow_X8_takes_101) rfl (by decide +kernel) (Nat.le_of_ble_eq_true rfl) rfl dX8_takes_18 (fun H locs hw => ?_)
      obtain ⟨v9, ev9⟩ : ∃ z, z = up3 v 30 0 8 (v 30 0 10) := ⟨_, rfl⟩
      rw [← ev9] at hw
      have hF := hF.trans (kb_some (congrArg some ev9.symm) _)
      refine lv_aload_n hx hb dX8_takes_21 rfl (lv_at hl 0 rfl) ?_
      refine lv_iload_n hx hb dX8_takes_22 rfl (lv_at hl 2 rfl) ?_
      refine km_put (ci := 8) (C := RX8) (T := TX8) (N := 23) (t := 30) (i := 0) hx hb hts fi_X8_takes_X8 tyX8 tyX8_ok nmX8 hown hK hw (by decide) (by decide) rfl rfl 7 (by decide) (hts (.fieldLink RX8 108 "WrongWordModel" "faultKind" "I") ow_X8_takes_108) rfl (by decide +kernel) (Nat.le_of_ble_eq_true rfl) rfl dX8_takes_23 (fun H locs hw => ?_)
      obtain ⟨v10, ev10⟩ : ∃ z, z = up3 v9 30 0 7 a2 := ⟨_, rfl⟩
      rw [← ev10] at hw
      have hF := hF.trans (kb_some (congrArg some ev10.symm) _)
      refine lv_iconst (v := 0) hx hb dX8_takes_26 (by decide) ?_
      exact hret _ _ _ _ _ _ hw dX8_takes_27 hF
  · skip
    have hF := hF.trans (if_pos c4)
    refine lv_iconst (v := 0) hx hb dX8_takes_7 (by decide) ?_
    exact hret _ _ _ _ _ _ hw dX8_takes_8 hF
abbrev rmX8_figure : Room := { frames := 3, cells := 0, slots := 0, locals := 66 }
def g_X8_figure (v : Mm) (a1 : Int32) (a2 : Int32) : Option (Int32 × Mm) := Option.bind (g_X8_isWell v) (fun r2 => if r2 = 0 then (Option.bind (g_X8_in v (v 30 0 12) a1 a2) (fun r6 => kb2 (g_X8_takes v r6 2) (fun r9 v10 => some (r9, v10)))) else (if v 30 0 11 = 2 then (Option.bind (g_X8_in v (v 30 0 12) a1 a2) (fun r13 => kb2 (g_X8_takes v r13 2) (fun r16 v17 => some (r16, v17)))) else (kb2 (g_X8_takes v 0 1) (fun r19 v20 => some (r19, v20)))))
set_option maxHeartbeats 4000000 in
set_option maxRecDepth 100000 in
theorem d_X8_figure (l : Launch) (E : kq_T) (Z : km_Z) (v : Mm) (a1 : Int32) (a2 : Int32) (hs : g_X8_figure v a1 a2 ≠ none) : km_I l E Z cntM yX8_figure wsX8_figure rmX8_figure [.ref (Z.1 30 0), .int a1, .int a2] v (fun r v1 => g_X8_figure v a1 a2 = some (r, v1)) := by
  refine km_goI (cc := cX8_figure) (maxL := 3) (by decide) rfl (Nat.le_of_ble_eq_true rfl) rfl rfl rfl ?_
  intro p e s m below meth c A ls Q C hK hw hl hret
  obtain ⟨hx, hb, hml, hown, hts, -, -, -⟩ := C
  have hown : s.vm.findClass RX8 = some m.cls := hown
  have hl : lv_has ls 3 [(0, .ref (Z.1 30 0)), (1, .int a1), (2, .int a2)] := hl
  have hF := g_X8_figure.eq_1 v a1 a2
  refine lv_aload_n hx hb dX8_figure_0 rfl (lv_at hl 0 rfl) ?_
  have hs1 : g_X8_isWell v ≠ none := fun q => hs (hF.trans (kb_n q _))
  refine km_cI (As := []) (rest := []) (n := 0) (q := (RX8, TX8, 23)) (ci := 8) (t := 30) (i := 0) ⟨hx, hb, hml, hown, hts⟩ (d_X8_isWell l E Z v  hs1) gX8_figure_X8_isWell rfl hV_X8_isWell ⟨Nat.le_of_ble_eq_true rfl, Nat.le_of_ble_eq_true rfl⟩ hK hw (by decide) (by decide) rfl rfl rfl hl.1 rfl (Nat.le_of_ble_eq_true rfl) dX8_figure_1 rfl rfl (fun r2 v3 H locs hp hw => ?_)
  obtain ⟨hp, hzr2⟩ := hp
  obtain ⟨hp, rfl⟩ := hp
  have hF := hF.trans (kb_some hp _)
  refine lv_if_eq (tgt := 22) hx hb dX8_figure_4 (by decide) (fun c4 => ?_) (fun c4 => ?_)
  · skip
    have hF := hF.trans (if_pos c4)
    refine lv_aload_n hx hb dX8_figure_22 rfl (lv_at hl 0 rfl) ?_
    refine lv_aload_n hx hb dX8_figure_23 rfl (lv_at hl 0 rfl) ?_
    refine km_get (ci := 8) (C := RX8) (T := TX8) (N := 23) (t := 30) (i := 0) hx hb hts fi_X8_figure_X8 hown hK hw (by decide) (by decide) rfl rfl 12 (by decide) (hts (.fieldLink RX8 95 "WrongWordModel" "value" "I") ow_X8_figure_95) rfl dX8_figure_24 ?_
    refine lv_iload_n hx hb dX8_figure_27 rfl (lv_at hl 1 rfl) ?_
    refine lv_iload_n hx hb dX8_figure_28 rfl (lv_at hl 2 rfl) ?_
    have hs5 : g_X8_in v (v 30 0 12) a1 a2 ≠ none := fun q => hs (hF.trans (kb_n q _))
    refine km_cS (As := [.int (v 30 0 12), .int a1, .int a2]) (rest := [.ref (Z.1 30 0)]) (n := 3) ⟨hx, hb, hml, hown, hts⟩ (d_X8_in l E Z v (v 30 0 12) a1 a2 hs5) gX8_figure_X8_in rfl hV_X8_in ⟨Nat.le_of_ble_eq_true rfl, Nat.le_of_ble_eq_true rfl⟩ hK hw rfl hl.1 rfl (Nat.le_of_ble_eq_true rfl) dX8_figure_29 rfl rfl (fun r6 v7 H locs hp hw => ?_)
    obtain ⟨hp, hzr6⟩ := hp
    obtain ⟨hp, rfl⟩ := hp
    have hF := hF.trans (kb_some hp _)
    refine lv_iconst (v := 2) hx hb dX8_figure_32 (by decide) ?_
    have hs8 : g_X8_takes v r6 2 ≠ none := fun q => hs (hF.trans (kb2_n q _))
    refine km_cI (As := [.int r6, .int 2]) (rest := []) (n := 2) (q := (RX8, TX8, 23)) (ci := 8) (t := 30) (i := 0) ⟨hx, hb, hml, hown, hts⟩ (d_X8_takes l E Z v r6 2 hs8) gX8_figure_X8_takes rfl hV_X8_takes ⟨Nat.le_of_ble_eq_true rfl, Nat.le_of_ble_eq_true rfl⟩ hK hw (by decide) (by decide) rfl rfl rfl hl.1 rfl (Nat.le_of_ble_eq_true rfl) dX8_figure_33 rfl rfl (fun r9 v10 H locs hp hw => ?_)
    have hF := hF.trans (kb2_some hp _)
    exact hret _ _ _ _ _ _ hw dX8_figure_36 hF
  · skip
    have hF := hF.trans (if_neg c4)
    refine lv_aload_n hx hb dX8_figure_7 rfl (lv_at hl 0 rfl) ?_
    refine km_get (ci := 8) (C := RX8) (T := TX8) (N := 23) (t := 30) (i := 0) hx hb hts fi_X8_figure_X8 hown hK hw (by decide) (by decide) rfl rfl 11 (by decide) (hts (.fieldLink RX8 98 "WrongWordModel" "token" "I") ow_X8_figure_98) rfl dX8_figure_8 ?_
    refine lv_iconst (v := 2) hx hb dX8_figure_11 (by decide) ?_
    refine lv_icmp_eq (tgt := 22) hx hb dX8_figure_12 (by decide) (fun c11 => ?_) (fun c11 => ?_)
    · skip
      have hF := hF.trans (if_pos c11)
      refine lv_aload_n hx hb dX8_figure_22 rfl (lv_at hl 0 rfl) ?_
      refine lv_aload_n hx hb dX8_figure_23 rfl (lv_at hl 0 rfl) ?_
      refine km_get (ci := 8) (C := RX8) (T := TX8) (N := 23) (t := 30) (i := 0) hx hb hts fi_X8_figure_X8 hown hK hw (by decide) (by decide) rfl rfl 12 (by decide) (hts (.fieldLink RX8 95 "WrongWordModel" "value" "I") ow_X8_figure_95) rfl dX8_figure_24 ?_
      refine lv_iload_n hx hb dX8_figure_27 rfl (lv_at hl 1 rfl) ?_
      refine lv_iload_n hx hb dX8_figure_28 rfl (lv_at hl 2 rfl) ?_
      have hs12 : g_X8_in v (v 30 0 12) a1 a2 ≠ none := fun q => hs (hF.trans (kb_n q _))
      refine km_cS (As := [.int (v 30 0 12), .int a1, .int a2]) (rest := [.ref (Z.1 30 0)]) (n := 3) ⟨hx, hb, hml, hown, hts⟩ (d_X8_in l E Z v (v 30 0 12) a1 a2 hs12) gX8_figure_X8_in rfl hV_X8_in ⟨Nat.le_of_ble_eq_true rfl, Nat.le_of_ble_eq_true rfl⟩ hK hw rfl hl.1 rfl (Nat.le_of_ble_eq_true rfl) dX8_figure_29 rfl rfl (fun r13 v14 H locs hp hw => ?_)
      obtain ⟨hp, hzr13⟩ := hp
      obtain ⟨hp, rfl⟩ := hp
      have hF := hF.trans (kb_some hp _)
      refine lv_iconst (v := 2) hx hb dX8_figure_32 (by decide) ?_
      have hs15 : g_X8_takes v r13 2 ≠ none := fun q => hs (hF.trans (kb2_n q _))
      refine km_cI (As := [.int r13, .int 2]) (rest := []) (n := 2) (q := (RX8, TX8, 23)) (ci := 8) (t := 30) (i := 0) ⟨hx, hb, hml, hown, hts⟩ (d_X8_takes l E Z v r13 2 hs15) gX8_figure_X8_takes rfl hV_X8_takes ⟨Nat.le_of_ble_eq_true rfl, Nat.le_of_ble_eq_true rfl⟩ hK hw (by decide) (by decide) rfl rfl rfl hl.1 rfl (Nat.le_of_ble_eq_true rfl) dX8_figure_33 rfl rfl (fun r16 v17 H locs hp hw => ?_)
      have hF := hF.trans (kb2_some hp _)
      exact hret _ _ _ _ _ _ hw dX8_figure_36 hF
    · skip
      have hF := hF.trans (if_neg c11)
      refine lv_aload_n hx hb dX8_figure_15 rfl (lv_at hl 0 rfl) ?_
      refine lv_iconst (v := 0) hx hb dX8_figure_16 (by decide) ?_
      refine lv_iconst (v := 1) hx hb dX8_figure_17 (by decide) ?_
      have hs18 : g_X8_takes v 0 1 ≠ none := fun q => hs (hF.trans (kb2_n q _))
      refine km_cI (As := [.int 0, .int 1]) (rest := []) (n := 2) (q := (RX8, TX8, 23)) (ci := 8) (t := 30) (i := 0) ⟨hx, hb, hml, hown, hts⟩ (d_X8_takes l E Z v 0 1 hs18) gX8_figure_X8_takes rfl hV_X8_takes ⟨Nat.le_of_ble_eq_true rfl, Nat.le_of_ble_eq_true rfl⟩ hK hw (by decide) (by decide) rfl rfl rfl hl.1 rfl (Nat.le_of_ble_eq_true rfl) dX8_figure_18 rfl rfl (fun r19 v20 H locs hp hw => ?_)
      have hF := hF.trans (kb2_some hp _)
      exact hret _ _ _ _ _ _ hw dX8_figure_21 hF
abbrev rmX8_kindOf : Room := { frames := 0, cells := 0, slots := 0, locals := 0 }
def g_X8_kindOf (v : Mm) (a0 : Int32) : Option (Int32) := if a0 = 107 then (some 1) else (if a0 = 115 then (some 2) else (if a0 = 101 then (some 3) else (if a0 = 100 then (some 4) else (if a0 = 103 then (some 5) else (some 0)))))
set_option maxHeartbeats 4000000 in
set_option maxRecDepth 100000 in
theorem d_X8_kindOf (l : Launch) (E : kq_T) (Z : km_Z) (v : Mm) (a0 : Int32) (hs : g_X8_kindOf v a0 ≠ none) : km_I l E Z cntM yX8_kindOf wsX8_kindOf rmX8_kindOf [.int a0] v (fun r v1 => g_X8_kindOf v a0 = some r ∧ v = v1) := by
  refine km_goI (cc := cX8_kindOf) (maxL := 1) (by decide) rfl (Nat.le_of_ble_eq_true rfl) rfl rfl rfl ?_
  intro p e s m below meth c A ls Q C hK hw hl hret
  obtain ⟨hx, hb, hml, hown, hts, -, -, -⟩ := C
  have hown : s.vm.findClass RX8 = some m.cls := hown
  have hl : lv_has ls 1 [(0, .int a0)] := hl
  have hF := g_X8_kindOf.eq_1 v a0
  refine lv_iload_n hx hb dX8_kindOf_0 rfl (lv_at hl 0 rfl) ?_
  refine lv_bipush (v := 107) hx hb dX8_kindOf_1 (by decide) ?_
  refine lv_icmp_ne (tgt := 10) hx hb dX8_kindOf_3 (by decide) (fun c1 => ?_) (fun c1 => ?_)
  · skip
    have hF := hF.trans (if_neg c1)
    refine lv_iload_n hx hb dX8_kindOf_10 rfl (lv_at hl 0 rfl) ?_
    refine lv_bipush (v := 115) hx hb dX8_kindOf_11 (by decide) ?_
    refine lv_icmp_ne (tgt := 20) hx hb dX8_kindOf_13 (by decide) (fun c2 => ?_) (fun c2 => ?_)
    · skip
      have hF := hF.trans (if_neg c2)
      refine lv_iload_n hx hb dX8_kindOf_20 rfl (lv_at hl 0 rfl) ?_
      refine lv_bipush (v := 101) hx hb dX8_kindOf_21 (by decide) ?_
      refine lv_icmp_ne (tgt := 30) hx hb dX8_kindOf_23 (by decide) (fun c3 => ?_) (fun c3 => ?_)
      · skip
        have hF := hF.trans (if_neg c3)
        refine lv_iload_n hx hb dX8_kindOf_30 rfl (lv_at hl 0 rfl) ?_
        refine lv_bipush (v := 100) hx hb dX8_kindOf_31 (by decide) ?_
        refine lv_icmp_ne (tgt := 40) hx hb dX8_kindOf_33 (by decide) (fun c4 => ?_) (fun c4 => ?_)
        · skip
          have hF := hF.trans (if_neg c4)
          refine lv_iload_n hx hb dX8_kindOf_40 rfl (lv_at hl 0 rfl) ?_
          refine lv_bipush (v := 103) hx hb dX8_kindOf_41 (by decide) ?_
          refine lv_icmp_ne (tgt := 50) hx hb dX8_kindOf_43 (by decide) (fun c5 => ?_) (fun c5 => ?_)
          · skip
            have hF := hF.trans (if_neg c5)
            refine lv_iconst (v := 0) hx hb dX8_kindOf_50 (by decide) ?_
            exact hret _ _ _ _ _ _ hw dX8_kindOf_51 ⟨hF, rfl⟩
          · skip
            have hF := hF.trans (if_pos c5)
            refine lv_iconst (v := 5) hx hb dX8_kindOf_46 (by decide) ?_
            refine lv_goto (tgt := 51) hx hb dX8_kindOf_47 (by decide) ?_
            exact hret _ _ _ _ _ _ hw dX8_kindOf_51 ⟨hF, rfl⟩
        · skip
          have hF := hF.trans (if_pos c4)
          refine lv_iconst (v := 4) hx hb dX8_kindOf_36 (by decide) ?_
          refine lv_goto (tgt := 51) hx hb dX8_kindOf_37 (by decide) ?_
          exact hret _ _ _ _ _ _ hw dX8_kindOf_51 ⟨hF, rfl⟩
      · skip
        have hF := hF.trans (if_pos c3)
        refine lv_iconst (v := 3) hx hb dX8_kindOf_26 (by decide) ?_
        refine lv_goto (tgt := 51) hx hb dX8_kindOf_27 (by decide) ?_
        exact hret _ _ _ _ _ _ hw dX8_kindOf_51 ⟨hF, rfl⟩
    · skip
      have hF := hF.trans (if_pos c2)
      refine lv_iconst (v := 2) hx hb dX8_kindOf_16 (by decide) ?_
      refine lv_goto (tgt := 51) hx hb dX8_kindOf_17 (by decide) ?_
      exact hret _ _ _ _ _ _ hw dX8_kindOf_51 ⟨hF, rfl⟩
  · skip
    have hF := hF.trans (if_pos c1)
    refine lv_iconst (v := 1) hx hb dX8_kindOf_6 (by decide) ?_
    refine lv_goto (tgt := 51) hx hb dX8_kindOf_7 (by decide) ?_
    exact hret _ _ _ _ _ _ hw dX8_kindOf_51 ⟨hF, rfl⟩
