abbrev rmX8_isGuard : Room := { frames := 1, cells := 0, slots := 0, locals := 22 }
def g_X8_isGuard (v : Mm) (a1 : Int32) : Option (Int32) := Option.bind (g_X8_in v a1 0 ((v 36 0 (Int32.toNatClampNeg 4)) - 1)) (fun r2 => some r2)
set_option maxHeartbeats 4000000 in
set_option maxRecDepth 100000 in
theorem d_X8_isGuard (l : Launch) (E : kq_T) (Z : km_Z) (v : Mm) (a1 : Int32) (hs : g_X8_isGuard v a1 ≠ none) : km_I l E Z cntM yX8_isGuard wsX8_isGuard rmX8_isGuard [.ref (Z.1 30 0), .int a1] v (fun r v1 => (g_X8_isGuard v a1 = some r ∧ v = v1) ∧ (r = 0 ∨ r = 1)) := by
  refine km_goZ (cc := cX8_isGuard) (maxL := 2) (post := fun r v1 => g_X8_isGuard v a1 = some r ∧ v = v1) (by decide) rfl (Nat.le_of_ble_eq_true rfl) rfl rfl rfl ?_
  intro p e s m below meth c A ls Q C hK hw hl hret
  obtain ⟨hx, hb, hml, hown, hts, -, -, -⟩ := C
  have hown : s.vm.findClass RX8 = some m.cls := hown
  have hl : lv_has ls 2 [(0, .ref (Z.1 30 0)), (1, .int a1)] := hl
  have hF := g_X8_isGuard.eq_1 v a1
  refine lv_iload_n hx hb dX8_isGuard_0 rfl (lv_at hl 1 rfl) ?_
  refine lv_iconst (v := 0) hx hb dX8_isGuard_1 (by decide) ?_
  refine lv_aload_n hx hb dX8_isGuard_2 rfl (lv_at hl 0 rfl) ?_
  refine km_get (ci := 8) (C := RX8) (T := TX8) (N := 23) (t := 30) (i := 0) hx hb hts fi_X8_isGuard_X8 hown hK hw (by decide) (by decide) rfl rfl 13 (by decide) (hts (.fieldLink RX8 25 "WrongWordModel" "now" "[I") ow_X8_isGuard_25) rfl dX8_isGuard_3 ?_
  refine lv_iconst (v := 4) hx hb dX8_isGuard_6 (by decide) ?_
  refine km_iald (t := 36) (i := 0) hx hb hK hw (by decide) (by decide) rfl (by unfold vp_in; decide) dX8_isGuard_7 ?_
  refine lv_iconst (v := 1) hx hb dX8_isGuard_8 (by decide) ?_
  refine lv_isub hx hb dX8_isGuard_9 ?_
  have hs1 : g_X8_in v a1 0 ((v 36 0 (Int32.toNatClampNeg 4)) - 1) ≠ none := fun q => hs (hF.trans (kb_n q _))
  refine km_cS (As := [.int a1, .int 0, .int ((v 36 0 (Int32.toNatClampNeg 4)) - 1)]) (rest := []) (n := 3) ⟨hx, hb, hml, hown, hts⟩ (d_X8_in l E Z v a1 0 ((v 36 0 (Int32.toNatClampNeg 4)) - 1) hs1) gX8_isGuard_X8_in rfl hV_X8_in ⟨Nat.le_of_ble_eq_true rfl, Nat.le_of_ble_eq_true rfl⟩ hK hw rfl hl.1 rfl (Nat.le_of_ble_eq_true rfl) dX8_isGuard_10 rfl rfl (fun r2 v3 H locs hp hw => ?_)
  obtain ⟨hp, hzr2⟩ := hp
  obtain ⟨hp, rfl⟩ := hp
  have hF := hF.trans (kb_some hp _)
  exact hret _ _ _ _ _ _ hw dX8_isGuard_13 hzr2 ⟨hF, rfl⟩
abbrev rmX8_isHour : Room := { frames := 1, cells := 0, slots := 0, locals := 22 }
def g_X8_isHour (v : Mm) (a0 : Int32) : Option (Int32) := Option.bind (g_X8_in v a0 0 5) (fun r2 => some r2)
set_option maxHeartbeats 4000000 in
set_option maxRecDepth 100000 in
theorem d_X8_isHour (l : Launch) (E : kq_T) (Z : km_Z) (v : Mm) (a0 : Int32) (hs : g_X8_isHour v a0 ≠ none) : km_I l E Z cntM yX8_isHour wsX8_isHour rmX8_isHour [.int a0] v (fun r v1 => (g_X8_isHour v a0 = some r ∧ v = v1) ∧ (r = 0 ∨ r = 1)) := by
  refine km_goZ (cc := cX8_isHour) (maxL := 1) (post := fun r v1 => g_X8_isHour v a0 = some r ∧ v = v1) (by decide) rfl (Nat.le_of_ble_eq_true rfl) rfl rfl rfl ?_
  intro p e s m below meth c A ls Q C hK hw hl hret
  obtain ⟨hx, hb, hml, hown, hts, -, -, -⟩ := C
  have hown : s.vm.findClass RX8 = some m.cls := hown
  have hl : lv_has ls 1 [(0, .int a0)] := hl
  have hF := g_X8_isHour.eq_1 v a0
  refine lv_iload_n hx hb dX8_isHour_0 rfl (lv_at hl 0 rfl) ?_
  refine lv_iconst (v := 0) hx hb dX8_isHour_1 (by decide) ?_
  refine lv_iconst (v := 5) hx hb dX8_isHour_2 (by decide) ?_
  have hs1 : g_X8_in v a0 0 5 ≠ none := fun q => hs (hF.trans (kb_n q _))
  refine km_cS (As := [.int a0, .int 0, .int 5]) (rest := []) (n := 3) ⟨hx, hb, hml, hown, hts⟩ (d_X8_in l E Z v a0 0 5 hs1) gX8_isHour_X8_in rfl hV_X8_in ⟨Nat.le_of_ble_eq_true rfl, Nat.le_of_ble_eq_true rfl⟩ hK hw rfl hl.1 rfl (Nat.le_of_ble_eq_true rfl) dX8_isHour_3 rfl rfl (fun r2 v3 H locs hp hw => ?_)
  obtain ⟨hp, hzr2⟩ := hp
  obtain ⟨hp, rfl⟩ := hp
  have hF := hF.trans (kb_some hp _)
  exact hret _ _ _ _ _ _ hw dX8_isHour_6 hzr2 ⟨hF, rfl⟩
abbrev rmX8_isFar : Room := { frames := 1, cells := 0, slots := 0, locals := 22 }
def g_X8_isFar (v : Mm) (a0 : Int32) : Option (Int32) := Option.bind (g_X8_in v a0 0 60) (fun r2 => some r2)
set_option maxHeartbeats 4000000 in
set_option maxRecDepth 100000 in
theorem d_X8_isFar (l : Launch) (E : kq_T) (Z : km_Z) (v : Mm) (a0 : Int32) (hs : g_X8_isFar v a0 ≠ none) : km_I l E Z cntM yX8_isFar wsX8_isFar rmX8_isFar [.int a0] v (fun r v1 => (g_X8_isFar v a0 = some r ∧ v = v1) ∧ (r = 0 ∨ r = 1)) := by
  refine km_goZ (cc := cX8_isFar) (maxL := 1) (post := fun r v1 => g_X8_isFar v a0 = some r ∧ v = v1) (by decide) rfl (Nat.le_of_ble_eq_true rfl) rfl rfl rfl ?_
  intro p e s m below meth c A ls Q C hK hw hl hret
  obtain ⟨hx, hb, hml, hown, hts, -, -, -⟩ := C
  have hown : s.vm.findClass RX8 = some m.cls := hown
  have hl : lv_has ls 1 [(0, .int a0)] := hl
  have hF := g_X8_isFar.eq_1 v a0
  refine lv_iload_n hx hb dX8_isFar_0 rfl (lv_at hl 0 rfl) ?_
  refine lv_iconst (v := 0) hx hb dX8_isFar_1 (by decide) ?_
  refine lv_bipush (v := 60) hx hb dX8_isFar_2 (by decide) ?_
  have hs1 : g_X8_in v a0 0 60 ≠ none := fun q => hs (hF.trans (kb_n q _))
  refine km_cS (As := [.int a0, .int 0, .int 60]) (rest := []) (n := 3) ⟨hx, hb, hml, hown, hts⟩ (d_X8_in l E Z v a0 0 60 hs1) gX8_isFar_X8_in rfl hV_X8_in ⟨Nat.le_of_ble_eq_true rfl, Nat.le_of_ble_eq_true rfl⟩ hK hw rfl hl.1 rfl (Nat.le_of_ble_eq_true rfl) dX8_isFar_4 rfl rfl (fun r2 v3 H locs hp hw => ?_)
  obtain ⟨hp, hzr2⟩ := hp
  obtain ⟨hp, rfl⟩ := hp
  have hF := hF.trans (kb_some hp _)
  exact hret _ _ _ _ _ _ hw dX8_isFar_7 hzr2 ⟨hF, rfl⟩
abbrev rmX8_areWords : Room := { frames := 1, cells := 0, slots := 0, locals := 22 }
def g_X8_areWords (v : Mm) (a1 : Int32) : Option (Int32) := Option.bind (g_X8_in v a1 0 (((1 : Int32) <<< ((v 36 0 (Int32.toNatClampNeg 3)) &&& 31)) - 1)) (fun r2 => some r2)
set_option maxHeartbeats 4000000 in
set_option maxRecDepth 100000 in
theorem d_X8_areWords (l : Launch) (E : kq_T) (Z : km_Z) (v : Mm) (a1 : Int32) (hs : g_X8_areWords v a1 ≠ none) : km_I l E Z cntM yX8_areWords wsX8_areWords rmX8_areWords [.ref (Z.1 30 0), .int a1] v (fun r v1 => (g_X8_areWords v a1 = some r ∧ v = v1) ∧ (r = 0 ∨ r = 1)) := by
  refine km_goZ (cc := cX8_areWords) (maxL := 2) (post := fun r v1 => g_X8_areWords v a1 = some r ∧ v = v1) (by decide) rfl (Nat.le_of_ble_eq_true rfl) rfl rfl rfl ?_
  intro p e s m below meth c A ls Q C hK hw hl hret
  obtain ⟨hx, hb, hml, hown, hts, -, -, -⟩ := C
  have hown : s.vm.findClass RX8 = some m.cls := hown
  have hl : lv_has ls 2 [(0, .ref (Z.1 30 0)), (1, .int a1)] := hl
  have hF := g_X8_areWords.eq_1 v a1
  refine lv_iload_n hx hb dX8_areWords_0 rfl (lv_at hl 1 rfl) ?_
  refine lv_iconst (v := 0) hx hb dX8_areWords_1 (by decide) ?_
  refine lv_iconst (v := 1) hx hb dX8_areWords_2 (by decide) ?_
  refine lv_aload_n hx hb dX8_areWords_3 rfl (lv_at hl 0 rfl) ?_
  refine km_get (ci := 8) (C := RX8) (T := TX8) (N := 23) (t := 30) (i := 0) hx hb hts fi_X8_areWords_X8 hown hK hw (by decide) (by decide) rfl rfl 13 (by decide) (hts (.fieldLink RX8 25 "WrongWordModel" "now" "[I") ow_X8_areWords_25) rfl dX8_areWords_4 ?_
  refine lv_iconst (v := 3) hx hb dX8_areWords_7 (by decide) ?_
  refine km_iald (t := 36) (i := 0) hx hb hK hw (by decide) (by decide) rfl (by unfold vp_in; decide) dX8_areWords_8 ?_
  refine lv_ishl hx hb dX8_areWords_9 ?_
  refine lv_iconst (v := 1) hx hb dX8_areWords_10 (by decide) ?_
  refine lv_isub hx hb dX8_areWords_11 ?_
  have hs1 : g_X8_in v a1 0 (((1 : Int32) <<< ((v 36 0 (Int32.toNatClampNeg 3)) &&& 31)) - 1) ≠ none := fun q => hs (hF.trans (kb_n q _))
  refine km_cS (As := [.int a1, .int 0, .int (((1 : Int32) <<< ((v 36 0 (Int32.toNatClampNeg 3)) &&& 31)) - 1)]) (rest := []) (n := 3) ⟨hx, hb, hml, hown, hts⟩ (d_X8_in l E Z v a1 0 (((1 : Int32) <<< ((v 36 0 (Int32.toNatClampNeg 3)) &&& 31)) - 1) hs1) gX8_areWords_X8_in rfl hV_X8_in ⟨Nat.le_of_ble_eq_true rfl, Nat.le_of_ble_eq_true rfl⟩ hK hw rfl hl.1 rfl (Nat.le_of_ble_eq_true rfl) dX8_areWords_12 rfl rfl (fun r2 v3 H locs hp hw => ?_)
  obtain ⟨hp, hzr2⟩ := hp
  obtain ⟨hp, rfl⟩ := hp
  have hF := hF.trans (kb_some hp _)
  exact hret _ _ _ _ _ _ hw dX8_areWords_15 hzr2 ⟨hF, rfl⟩
abbrev rmX8_secretOf_36 : Room := { frames := 0, cells := 0, slots := 0, locals := 0 }
def g_X8_secretOf_36 (v : Mm) (a1 : Int32) : Option (Int32) := if a1 - a1 / 7 * 7 = v 36 0 (Int32.toNatClampNeg 2) then (some 0) else (if v 36 0 (Int32.toNatClampNeg 3) = 0 then none else (some (((v 36 0 (Int32.toNatClampNeg 0)) + ((v 36 0 (Int32.toNatClampNeg 1)) * a1)) - ((v 36 0 (Int32.toNatClampNeg 0)) + ((v 36 0 (Int32.toNatClampNeg 1)) * a1)) / (v 36 0 (Int32.toNatClampNeg 3)) * (v 36 0 (Int32.toNatClampNeg 3)))))
set_option maxHeartbeats 4000000 in
set_option maxRecDepth 100000 in
theorem d_X8_secretOf_36 (l : Launch) (E : kq_T) (Z : km_Z) (v : Mm) (a1 : Int32) (hs : g_X8_secretOf_36 v a1 ≠ none) : km_I l E Z cntM yX8_secretOf wsX8_secretOf rmX8_secretOf_36 [.ref (Z.1 36 0), .int a1] v (fun r v1 => g_X8_secretOf_36 v a1 = some r ∧ v = v1) := by
  refine km_goI (cc := cX8_secretOf) (maxL := 2) (by decide) rfl (Nat.le_of_ble_eq_true rfl) rfl rfl rfl ?_
  intro p e s m below meth c A ls Q C hK hw hl hret
  obtain ⟨hx, hb, hml, hown, hts, -, -, -⟩ := C
  have hown : s.vm.findClass RX8 = some m.cls := hown
  have hl : lv_has ls 2 [(0, .ref (Z.1 36 0)), (1, .int a1)] := hl
  have hF := g_X8_secretOf_36.eq_1 v a1
  refine lv_iload_n hx hb dX8_secretOf_0 rfl (lv_at hl 1 rfl) ?_
  refine lv_bipush (v := 7) hx hb dX8_secretOf_1 (by decide) ?_
  refine lv_irem hx hb dX8_secretOf_3 (by decide) ?_
  refine lv_aload_n hx hb dX8_secretOf_4 rfl (lv_at hl 0 rfl) ?_
  refine lv_iconst (v := 2) hx hb dX8_secretOf_5 (by decide) ?_
  refine km_iald (t := 36) (i := 0) hx hb hK hw (by decide) (by decide) rfl (by unfold vp_in; decide) dX8_secretOf_6 ?_
  refine lv_icmp_ne (tgt := 14) hx hb dX8_secretOf_7 (by decide) (fun c1 => ?_) (fun c1 => ?_)
  · skip
    have hF := hF.trans (if_neg c1)
    refine lv_aload_n hx hb dX8_secretOf_14 rfl (lv_at hl 0 rfl) ?_
    refine lv_iconst (v := 0) hx hb dX8_secretOf_15 (by decide) ?_
    refine km_iald (t := 36) (i := 0) hx hb hK hw (by decide) (by decide) rfl (by unfold vp_in; decide) dX8_secretOf_16 ?_
    refine lv_aload_n hx hb dX8_secretOf_17 rfl (lv_at hl 0 rfl) ?_
    refine lv_iconst (v := 1) hx hb dX8_secretOf_18 (by decide) ?_
    refine km_iald (t := 36) (i := 0) hx hb hK hw (by decide) (by decide) rfl (by unfold vp_in; decide) dX8_secretOf_19 ?_
    refine lv_iload_n hx hb dX8_secretOf_20 rfl (lv_at hl 1 rfl) ?_
    refine lv_imul hx hb dX8_secretOf_21 ?_
    refine lv_iadd hx hb dX8_secretOf_22 ?_
    refine lv_aload_n hx hb dX8_secretOf_23 rfl (lv_at hl 0 rfl) ?_
    refine lv_iconst (v := 3) hx hb dX8_secretOf_24 (by decide) ?_
    refine km_iald (t := 36) (i := 0) hx hb hK hw (by decide) (by decide) rfl (by unfold vp_in; decide) dX8_secretOf_25 ?_
    have hb2 : ¬ v 36 0 (Int32.toNatClampNeg 3) = 0 := fun q => hs (hF.trans (if_pos q))
    have hF := hF.trans (if_neg hb2)
    refine lv_irem hx hb dX8_secretOf_26 hb2 ?_
    exact hret _ _ _ _ _ _ hw dX8_secretOf_27 ⟨hF, rfl⟩
  · skip
    have hF := hF.trans (if_pos c1)
    refine lv_iconst (v := 0) hx hb dX8_secretOf_10 (by decide) ?_
    refine lv_goto (tgt := 27) hx hb dX8_secretOf_11 (by decide) ?_
    exact hret _ _ _ _ _ _ hw dX8_secretOf_27 ⟨hF, rfl⟩
abbrev rmX8_secretOf_38 : Room := { frames := 0, cells := 0, slots := 0, locals := 0 }
def g_X8_secretOf_38 (v : Mm) (a1 : Int32) : Option (Int32) := if a1 - a1 / 7 * 7 = v 38 0 (Int32.toNatClampNeg 2) then (some 0) else (if v 38 0 (Int32.toNatClampNeg 3) = 0 then none else (some (((v 38 0 (Int32.toNatClampNeg 0)) + ((v 38 0 (Int32.toNatClampNeg 1)) * a1)) - ((v 38 0 (Int32.toNatClampNeg 0)) + ((v 38 0 (Int32.toNatClampNeg 1)) * a1)) / (v 38 0 (Int32.toNatClampNeg 3)) * (v 38 0 (Int32.toNatClampNeg 3)))))
set_option maxHeartbeats 4000000 in
set_option maxRecDepth 100000 in
theorem d_X8_secretOf_38 (l : Launch) (E : kq_T) (Z : km_Z) (v : Mm) (a1 : Int32) (hs : g_X8_secretOf_38 v a1 ≠ none) : km_I l E Z cntM yX8_secretOf wsX8_secretOf rmX8_secretOf_38 [.ref (Z.1 38 0), .int a1] v (fun r v1 => g_X8_secretOf_38 v a1 = some r ∧ v = v1) := by
  refine km_goI (cc := cX8_secretOf) (maxL := 2) (by decide) rfl (Nat.le_of_ble_eq_true rfl) rfl rfl rfl ?_
  intro p e s m below meth c A ls Q C hK hw hl hret
  obtain ⟨hx, hb, hml, hown, hts, -, -, -⟩ := C
  have hown : s.vm.findClass RX8 = some m.cls := hown
  have hl : lv_has ls 2 [(0, .ref (Z.1 38 0)), (1, .int a1)] := hl
  have hF := g_X8_secretOf_38.eq_1 v a1
  refine lv_iload_n hx hb dX8_secretOf_0 rfl (lv_at hl 1 rfl) ?_
  refine lv_bipush (v := 7) hx hb dX8_secretOf_1 (by decide) ?_
  refine lv_irem hx hb dX8_secretOf_3 (by decide) ?_
  refine lv_aload_n hx hb dX8_secretOf_4 rfl (lv_at hl 0 rfl) ?_
  refine lv_iconst (v := 2) hx hb dX8_secretOf_5 (by decide) ?_
  refine km_iald (t := 38) (i := 0) hx hb hK hw (by decide) (by decide) rfl (by unfold vp_in; decide) dX8_secretOf_6 ?_
  refine lv_icmp_ne (tgt := 14) hx hb dX8_secretOf_7 (by decide) (fun c1 => ?_) (fun c1 => ?_)
  · skip
    have hF := hF.trans (if_neg c1)
    refine lv_aload_n hx hb dX8_secretOf_14 rfl (lv_at hl 0 rfl) ?_
    refine lv_iconst (v := 0) hx hb dX8_secretOf_15 (by decide) ?_
    refine km_iald (t := 38) (i := 0) hx hb hK hw (by decide) (by decide) rfl (by unfold vp_in; decide) dX8_secretOf_16 ?_
    refine lv_aload_n hx hb dX8_secretOf_17 rfl (lv_at hl 0 rfl) ?_
    refine lv_iconst (v := 1) hx hb dX8_secretOf_18 (by decide) ?_
    refine km_iald (t := 38) (i := 0) hx hb hK hw (by decide) (by decide) rfl (by unfold vp_in; decide) dX8_secretOf_19 ?_
    refine lv_iload_n hx hb dX8_secretOf_20 rfl (lv_at hl 1 rfl) ?_
    refine lv_imul hx hb dX8_secretOf_21 ?_
    refine lv_iadd hx hb dX8_secretOf_22 ?_
    refine lv_aload_n hx hb dX8_secretOf_23 rfl (lv_at hl 0 rfl) ?_
    refine lv_iconst (v := 3) hx hb dX8_secretOf_24 (by decide) ?_
    refine km_iald (t := 38) (i := 0) hx hb hK hw (by decide) (by decide) rfl (by unfold vp_in; decide) dX8_secretOf_25 ?_
    have hb2 : ¬ v 38 0 (Int32.toNatClampNeg 3) = 0 := fun q => hs (hF.trans (if_pos q))
    have hF := hF.trans (if_neg hb2)
    refine lv_irem hx hb dX8_secretOf_26 hb2 ?_
    exact hret _ _ _ _ _ _ hw dX8_secretOf_27 ⟨hF, rfl⟩
  · skip
    have hF := hF.trans (if_pos c1)
    refine lv_iconst (v := 0) hx hb dX8_secretOf_10 (by decide) ?_
    refine lv_goto (tgt := 27) hx hb dX8_secretOf_11 (by decide) ?_
    exact hret _ _ _ _ _ _ hw dX8_secretOf_27 ⟨hF, rfl⟩
abbrev rmX8_distance : Room := { frames := 0, cells := 0, slots := 0, locals := 0 }
def b_X8_distance_L5  (rec5 : Int32 → Int32 → Option (Int32)) (v : Mm) (a1 : Int32) (a2 : Int32) (x3_5 : Int32) (x4_5 : Int32) : Option (Int32) := if 3 ≤ x4_5 then (some x3_5) else (if ((8 : Int32) + ((3 : Int32) * a1)) + x4_5 < 0 ∨ 65 ≤ Int32.toNatClampNeg (((8 : Int32) + ((3 : Int32) * a1)) + x4_5) then none else (if ((8 : Int32) + ((3 : Int32) * a2)) + x4_5 < 0 ∨ 65 ≤ Int32.toNatClampNeg (((8 : Int32) + ((3 : Int32) * a2)) + x4_5) then none else (if v 36 0 (Int32.toNatClampNeg (((8 : Int32) + ((3 : Int32) * a1)) + x4_5)) = v 36 0 (Int32.toNatClampNeg (((8 : Int32) + ((3 : Int32) * a2)) + x4_5)) then (rec5 (x3_5 + 0) (x4_5 + 1)) else (rec5 (x3_5 + 1) (x4_5 + 1)))))
def g_X8_distance_L5  (v : Mm) (a1 : Int32) (a2 : Int32) : Nat → Int32 → Int32 → Option (Int32)
  | 0 => fun _ _ => none
  | n + 1 => b_X8_distance_L5  (g_X8_distance_L5  v a1 a2 n) v a1 a2
def g_X8_distance (v : Mm) (a1 : Int32) (a2 : Int32) : Option (Int32) := g_X8_distance_L5  v a1 a2 2000 0 0
set_option maxHeartbeats 4000000 in
set_option maxRecDepth 100000 in
theorem d_X8_distance (l : Launch) (E : kq_T) (Z : km_Z) (v : Mm) (a1 : Int32) (a2 : Int32) (hs : g_X8_distance v a1 a2 ≠ none) : km_I l E Z cntM yX8_distance wsX8_distance rmX8_distance [.ref (Z.1 30 0), .int a1, .int a2] v (fun r v1 => g_X8_distance v a1 a2 = some r ∧ v = v1) := by
  refine km_goI (cc := cX8_distance) (maxL := 5) (by decide) rfl (Nat.le_of_ble_eq_true rfl) rfl rfl rfl ?_
  intro p e s m below meth c A ls Q C hK hw hl hret
  obtain ⟨hx, hb, hml, hown, hts, -, -, -⟩ := C
  have hown : s.vm.findClass RX8 = some m.cls := hown
  have hl : lv_has ls 5 [(0, .ref (Z.1 30 0)), (1, .int a1), (2, .int a2)] := hl
  have hF := g_X8_distance.eq_1 v a1 a2
  have loop5 : ∀ (n5 : Nat) (x3_5 : Int32) (x4_5 : Int32) (H : Heap) (locs : List Loc) (ls : Array Slot), g_X8_distance v a1 a2 = g_X8_distance_L5  v a1 a2 n5 x3_5 x4_5 → km_w E A s.heap [] Z cntM v H locs → lv_has ls 5 [(0, .ref (Z.1 30 0)), (1, .int a1), (2, .int a2), (3, .int x3_5), (4, .int x4_5)] → W p l e rmX8_distance s m [.ref (Z.1 30 0), .int a1, .int a2].toArray below meth c H locs 0 0 Q (F0 m 5 ls []) := by
    intro n5
    induction n5 with
    | zero => intro x3_5 x4_5 H locs ls hF hw hl; exact absurd (show g_X8_distance v a1 a2 = none from hF) hs
    | succ n5 ih5 =>
      intro x3_5 x4_5 H locs ls hF hw hl
      have hF := hF.trans (b_X8_distance_L5.eq_1  (g_X8_distance_L5  v a1 a2 n5) v a1 a2 x3_5 x4_5)
      refine lv_iload hx hb dX8_distance_5 (lv_at hl 4 rfl) ?_
      refine lv_iconst (v := 3) hx hb dX8_distance_7 (by decide) ?_
      refine lv_icmp_ge (tgt := 56) hx hb dX8_distance_8 (by decide) (fun c1 => ?_) (fun c1 => ?_)
      · skip
        have hF := hF.trans (if_pos c1)
        refine lv_iload_n hx hb dX8_distance_56 rfl (lv_at hl 3 rfl) ?_
        exact hret _ _ _ _ _ _ hw dX8_distance_57 ⟨hF, rfl⟩
      · skip
        have hF := hF.trans (if_neg c1)
        refine lv_iload_n hx hb dX8_distance_11 rfl (lv_at hl 3 rfl) ?_
        refine lv_aload_n hx hb dX8_distance_12 rfl (lv_at hl 0 rfl) ?_
        refine km_get (ci := 8) (C := RX8) (T := TX8) (N := 23) (t := 30) (i := 0) hx hb hts fi_X8_distance_X8 hown hK hw (by decide) (by decide) rfl rfl 13 (by decide) (hts (.fieldLink RX8 25 "WrongWordModel" "now" "[I") ow_X8_distance_25) rfl dX8_distance_13 ?_
        refine lv_bipush (v := 8) hx hb dX8_distance_16 (by decide) ?_
        refine lv_iconst (v := 3) hx hb dX8_distance_18 (by decide) ?_
        refine lv_iload_n hx hb dX8_distance_19 rfl (lv_at hl 1 rfl) ?_
        refine lv_imul hx hb dX8_distance_20 ?_
        refine lv_iadd hx hb dX8_distance_21 ?_
        refine lv_iload hx hb dX8_distance_22 (lv_at hl 4 rfl) ?_
        refine lv_iadd hx hb dX8_distance_24 ?_
        have hb2 : ¬ (((8 : Int32) + ((3 : Int32) * a1)) + x4_5 < 0 ∨ 65 ≤ Int32.toNatClampNeg (((8 : Int32) + ((3 : Int32) * a1)) + x4_5)) := fun q => hs (hF.trans (if_pos q))
        have hF := hF.trans (if_neg hb2)
        refine km_iald (t := 36) (i := 0) hx hb hK hw (by decide) (by decide) rfl hb2 dX8_distance_25 ?_
        refine lv_aload_n hx hb dX8_distance_26 rfl (lv_at hl 0 rfl) ?_
        refine km_get (ci := 8) (C := RX8) (T := TX8) (N := 23) (t := 30) (i := 0) hx hb hts fi_X8_distance_X8 hown hK hw (by decide) (by decide) rfl rfl 13 (by decide) (hts (.fieldLink RX8 25 "WrongWordModel" "now" "[I") ow_X8_distance_25) rfl dX8_distance_27 ?_
        refine lv_bipush (v := 8) hx hb dX8_distance_30 (by decide) ?_
        refine lv_iconst (v := 3) hx hb dX8_distance_32 (by decide) ?_
        refine lv_iload_n hx hb dX8_distance_33 rfl (lv_at hl 2 rfl) ?_
        refine lv_imul hx hb dX8_distance_34 ?_
        refine lv_iadd hx hb dX8_distance_35 ?_
        refine lv_iload hx hb dX8_distance_36 (lv_at hl 4 rfl) ?_
        refine lv_iadd hx hb dX8_distance_38 ?_
        have hb3 : ¬ (((8 : Int32) + ((3 : Int32) * a2)) + x4_5 < 0 ∨ 65 ≤ Int32.toNatClampNeg (((8 : Int32) + ((3 : Int32) * a2)) + x4_5)) := fun q => hs (hF.trans (if_pos q))
        have hF := hF.trans (if_neg hb3)
        refine km_iald (t := 36) (i := 0) hx hb hK hw (by decide) (by decide) rfl hb3 dX8_distance_39 ?_
        refine lv_icmp_ne (tgt := 47) hx hb dX8_distance_40 (by decide) (fun c4 => ?_) (fun c4 => ?_)
        · skip
          have hF := hF.trans (if_neg c4)
          refine lv_iconst (v := 1) hx hb dX8_distance_47 (by decide) ?_
          refine lv_iadd hx hb dX8_distance_48 ?_
          refine lv_istore_n (lv' := [(3, .int (x3_5 + 1)), (0, .ref (Z.1 30 0)), (1, .int a1), (2, .int a2), (4, .int x4_5)]) hx hb dX8_distance_49 rfl hl (by decide) rfl (fun ls hl => ?_)
          refine lv_iinc (v := x4_5 + 1) (lv' := [(4, .int (x4_5 + 1)), (3, .int (x3_5 + 1)), (0, .ref (Z.1 30 0)), (1, .int a1), (2, .int a2)]) hx hb dX8_distance_50 hl (k := 4) rfl rfl (by decide) rfl (fun ls hl => ?_)
          refine lv_goto (tgt := 5) hx hb dX8_distance_53 (by decide) ?_
          have hl := lv_sub (l' := [(0, .ref (Z.1 30 0)), (1, .int a1), (2, .int a2), (3, .int (x3_5 + 1)), (4, .int (x4_5 + 1))]) hl [2, 3, 4, 1, 0] rfl
          exact ih5 (x3_5 + 1) (x4_5 + 1) _ _ _ hF hw hl
        · skip
          have hF := hF.trans (if_pos c4)
          refine lv_iconst (v := 0) hx hb dX8_distance_43 (by decide) ?_
          refine lv_goto (tgt := 48) hx hb dX8_distance_44 (by decide) ?_
          refine lv_iadd hx hb dX8_distance_48 ?_
          refine lv_istore_n (lv' := [(3, .int (x3_5 + 0)), (0, .ref (Z.1 30 0)), (1, .int a1), (2, .int a2), (4, .int x4_5)]) hx hb dX8_distance_49 rfl hl (by decide) rfl (fun ls hl => ?_)
          refine lv_iinc (v := x4_5 + 1) (lv' := [(4, .int (x4_5 + 1)), (3, .int (x3_5 + 0)), (0, .ref (Z.1 30 0)), (1, .int a1), (2, .int a2)]) hx hb dX8_distance_50 hl (k := 4) rfl rfl (by decide) rfl (fun ls hl => ?_)
          refine lv_goto (tgt := 5) hx hb dX8_distance_53 (by decide) ?_
          have hl := lv_sub (l' := [(0, .ref (Z.1 30 0)), (1, .int a1), (2, .int a2), (3, .int (x3_5 + 0)), (4, .int (x4_5 + 1))]) hl [2, 3, 4, 1, 0] rfl
          exact ih5 (x3_5 + 0) (x4_5 + 1) _ _ _ hF hw hl
  refine lv_iconst (v := 0) hx hb dX8_distance_0 (by decide) ?_
  refine lv_istore_n (lv' := [(3, .int 0), (0, .ref (Z.1 30 0)), (1, .int a1), (2, .int a2)]) hx hb dX8_distance_1 rfl hl (by decide) rfl (fun ls hl => ?_)
  refine lv_iconst (v := 0) hx hb dX8_distance_2 (by decide) ?_
  refine lv_istore (lv' := [(4, .int 0), (3, .int 0), (0, .ref (Z.1 30 0)), (1, .int a1), (2, .int a2)]) hx hb dX8_distance_3 hl (by decide) rfl (fun ls hl => ?_)
  have hl := lv_sub (l' := [(0, .ref (Z.1 30 0)), (1, .int a1), (2, .int a2), (3, .int 0), (4, .int 0)]) hl [2, 3, 4, 1, 0] rfl
  exact loop5 2000 0 0 _ _ _ hF hw hl
abbrev rmX8_lips : Room := { frames := 0, cells := 0, slots := 0, locals := 0 }
def b_X8_lips_L5  (rec5 : Int32 → Int32 → Option (Int32)) (v : Mm) (a1 : Int32) (a2 : Int32) (x3_5 : Int32) (x4_5 : Int32) : Option (Int32) := if 3 ≤ x4_5 then (some x3_5) else (if ((8 : Int32) + ((3 : Int32) * a1)) + x4_5 < 0 ∨ 65 ≤ Int32.toNatClampNeg (((8 : Int32) + ((3 : Int32) * a1)) + x4_5) then none else (if ((8 : Int32) + ((3 : Int32) * a2)) + x4_5 < 0 ∨ 65 ≤ Int32.toNatClampNeg (((8 : Int32) + ((3 : Int32) * a2)) + x4_5) then none else (if (v 36 0 (Int32.toNatClampNeg (((8 : Int32) + ((3 : Int32) * a1)) + x4_5))) - (v 36 0 (Int32.toNatClampNeg (((8 : Int32) + ((3 : Int32) * a1)) + x4_5))) / 5 * 5 = (v 36 0 (Int32.toNatClampNeg (((8 : Int32) + ((3 : Int32) * a2)) + x4_5))) - (v 36 0 (Int32.toNatClampNeg (((8 : Int32) + ((3 : Int32) * a2)) + x4_5))) / 5 * 5 then (rec5 (x3_5 + 1) (x4_5 + 1)) else (rec5 (x3_5 + 0) (x4_5 + 1)))))
def g_X8_lips_L5  (v : Mm) (a1 : Int32) (a2 : Int32) : Nat → Int32 → Int32 → Option (Int32)
  | 0 => fun _ _ => none
  | n + 1 => b_X8_lips_L5  (g_X8_lips_L5  v a1 a2 n) v a1 a2
def g_X8_lips (v : Mm) (a1 : Int32) (a2 : Int32) : Option (Int32) := g_X8_lips_L5  v a1 a2 2000 0 0
set_option maxHeartbeats 4000000 in
set_option maxRecDepth 100000 in
theorem d_X8_lips (l : Launch) (E : kq_T) (Z : km_Z) (v : Mm) (a1 : Int32) (a2 : Int32) (hs : g_X8_lips v a1 a2 ≠ none) : km_I l E Z cntM yX8_lips wsX8_lips rmX8_lips [.ref (Z.1 30 0), .int a1, .int a2] v (fun r v1 => g_X8_lips v a1 a2 = some r ∧ v = v1) := by
  refine km_goI (cc := cX8_lips) (maxL := 5) (by decide) rfl (Nat.le_of_ble_eq_true rfl) rfl rfl rfl ?_
  intro p e s m below meth c A ls Q C hK hw hl hret
  obtain ⟨hx, hb, hml, hown, hts, -, -, -⟩ := C
  have hown : s.vm.findClass RX8 = some m.cls := hown
  have hl : lv_has ls 5 [(0, .ref (Z.1 30 0)), (1, .int a1), (2, .int a2)] := hl
  have hF := g_X8_lips.eq_1 v a1 a2
  have loop5 : ∀ (n5 : Nat) (x3_5 : Int32) (x4_5 : Int32) (H : Heap) (locs : List Loc) (ls : Array Slot), g_X8_lips v a1 a2 = g_X8_lips_L5  v a1 a2 n5 x3_5 x4_5 → km_w E A s.heap [] Z cntM v H locs → lv_has ls 5 [(0, .ref (Z.1 30 0)), (1, .int a1), (2, .int a2), (3, .int x3_5), (4, .int x4_5)] → W p l e rmX8_lips s m [.ref (Z.1 30 0), .int a1, .int a2].toArray below meth c H locs 0 0 Q (F0 m 5 ls []) := by
    intro n5
    induction n5 with
    | zero => intro x3_5 x4_5 H locs ls hF hw hl; exact absurd (show g_X8_lips v a1 a2 = none from hF) hs
    | succ n5 ih5 =>
      intro x3_5 x4_5 H locs ls hF hw hl
      have hF := hF.trans (b_X8_lips_L5.eq_1  (g_X8_lips_L5  v a1 a2 n5) v a1 a2 x3_5 x4_5)
      refine lv_iload hx hb dX8_lips_5 (lv_at hl 4 rfl) ?_
      refine lv_iconst (v := 3) hx hb dX8_lips_7 (by decide) ?_
      refine lv_icmp_ge (tgt := 60) hx hb dX8_lips_8 (by decide) (fun c1 => ?_) (fun c1 => ?_)
      · skip
        have hF := hF.trans (if_pos c1)
        refine lv_iload_n hx hb dX8_lips_60 rfl (lv_at hl 3 rfl) ?_
        exact hret _ _ _ _ _ _ hw dX8_lips_61 ⟨hF, rfl⟩
      · skip
        have hF := hF.trans (if_neg c1)
        refine lv_iload_n hx hb dX8_lips_11 rfl (lv_at hl 3 rfl) ?_
        refine lv_aload_n hx hb dX8_lips_12 rfl (lv_at hl 0 rfl) ?_
        refine km_get (ci := 8) (C := RX8) (T := TX8) (N := 23) (t := 30) (i := 0) hx hb hts fi_X8_lips_X8 hown hK hw (by decide) (by decide) rfl rfl 13 (by decide) (hts (.fieldLink RX8 25 "WrongWordModel" "now" "[I") ow_X8_lips_25) rfl dX8_lips_13 ?_
        refine lv_bipush (v := 8) hx hb dX8_lips_16 (by decide) ?_
        refine lv_iconst (v := 3) hx hb dX8_lips_18 (by decide) ?_
        refine lv_iload_n hx hb dX8_lips_19 rfl (lv_at hl 1 rfl) ?_
        refine lv_imul hx hb dX8_lips_20 ?_
        refine lv_iadd hx hb dX8_lips_21 ?_
        refine lv_iload hx hb dX8_lips_22 (lv_at hl 4 rfl) ?_
        refine lv_iadd hx hb dX8_lips_24 ?_
        have hb2 : ¬ (((8 : Int32) + ((3 : Int32) * a1)) + x4_5 < 0 ∨ 65 ≤ Int32.toNatClampNeg (((8 : Int32) + ((3 : Int32) * a1)) + x4_5)) := fun q => hs (hF.trans (if_pos q))
        have hF := hF.trans (if_neg hb2)
        refine km_iald (t := 36) (i := 0) hx hb hK hw (by decide) (by decide) rfl hb2 dX8_lips_25 ?_
        refine lv_iconst (v := 5) hx hb dX8_lips_26 (by decide) ?_
        refine lv_irem hx hb dX8_lips_27 (by decide) ?_
        refine lv_aload_n hx hb dX8_lips_28 rfl (lv_at hl 0 rfl) ?_
        refine km_get (ci := 8) (C := RX8) (T := TX8) (N := 23) (t := 30) (i := 0) hx hb hts fi_X8_lips_X8 hown hK hw (by decide) (by decide) rfl rfl 13 (by decide) (hts (.fieldLink RX8 25 "WrongWordModel" "now" "[I") ow_X8_lips_25) rfl dX8_lips_29 ?_
        refine lv_bipush (v := 8) hx hb dX8_lips_32 (by decide) ?_
        refine lv_iconst (v := 3) hx hb dX8_lips_34 (by decide) ?_
        refine lv_iload_n hx hb dX8_lips_35 rfl (lv_at hl 2 rfl) ?_
        refine lv_imul hx hb dX8_lips_36 ?_
        refine lv_iadd hx hb dX8_lips_37 ?_
        refine lv_iload hx hb dX8_lips_38 (lv_at hl 4 rfl) ?_
        refine lv_iadd hx hb dX8_lips_40 ?_
        have hb3 : ¬ (((8 : Int32) + ((3 : Int32) * a2)) + x4_5 < 0 ∨ 65 ≤ Int32.toNatClampNeg (((8 : Int32) + ((3 : Int32) * a2)) + x4_5)) := fun q => hs (hF.trans (if_pos q))
        have hF := hF.trans (if_neg hb3)
        refine km_iald (t := 36) (i := 0) hx hb hK hw (by decide) (by decide) rfl hb3 dX8_lips_41 ?_
        refine lv_iconst (v := 5) hx hb dX8_lips_42 (by decide) ?_
        refine lv_irem hx hb dX8_lips_43 (by decide) ?_
        refine lv_icmp_ne (tgt := 51) hx hb dX8_lips_44 (by decide) (fun c4 => ?_) (fun c4 => ?_)
        · skip
          have hF := hF.trans (if_neg c4)
          refine lv_iconst (v := 0) hx hb dX8_lips_51 (by decide) ?_
          refine lv_iadd hx hb dX8_lips_52 ?_
          refine lv_istore_n (lv' := [(3, .int (x3_5 + 0)), (0, .ref (Z.1 30 0)), (1, .int a1), (2, .int a2), (4, .int x4_5)]) hx hb dX8_lips_53 rfl hl (by decide) rfl (fun ls hl => ?_)
          refine lv_iinc (v := x4_5 + 1) (lv' := [(4, .int (x4_5 + 1)), (3, .int (x3_5 + 0)), (0, .ref (Z.1 30 0)), (1, .int a1), (2, .int a2)]) hx hb dX8_lips_54 hl (k := 4) rfl rfl (by decide) rfl (fun ls hl => ?_)
          refine lv_goto (tgt := 5) hx hb dX8_lips_57 (by decide) ?_
          have hl := lv_sub (l' := [(0, .ref (Z.1 30 0)), (1, .int a1), (2, .int a2), (3, .int (x3_5 + 0)), (4, .int (x4_5 + 1))]) hl [2, 3, 4, 1, 0] rfl
          exact ih5 (x3_5 + 0) (x4_5 + 1) _ _ _ hF hw hl
        · skip
          have hF := hF.trans (if_pos c4)
          refine lv_iconst (v := 1) hx hb dX8_lips_47 (by decide) ?_
          refine lv_goto (tgt := 52) hx hb dX8_lips_48 (by decide) ?_
          refine lv_iadd hx hb dX8_lips_52 ?_
          refine lv_istore_n (lv' := [(3, .int (x3_5 + 1)), (0, .ref (Z.1 30 0)), (1, .int a1), (2, .int a2), (4, .int x4_5)]) hx hb dX8_lips_53 rfl hl (by decide) rfl (fun ls hl => ?_)
          refine lv_iinc (v := x4_5 + 1) (lv' := [(4, .int (x4_5 + 1)), (3, .int (x3_5 + 1)), (0, .ref (Z.1 30 0)), (1, .int a1), (2, .int a2)]) hx hb dX8_lips_54 hl (k := 4) rfl rfl (by decide) rfl (fun ls hl => ?_)
          refine lv_goto (tgt := 5) hx hb dX8_lips_57 (by decide) ?_
          have hl := lv_sub (l' := [(0, .ref (Z.1 30 0)), (1, .int a1), (2, .int a2), (3, .int (x3_5 + 1)), (4, .int (x4_5 + 1))]) hl [2, 3, 4, 1, 0] rfl
          exact ih5 (x3_5 + 1) (x4_5 + 1) _ _ _ hF hw hl
  refine lv_iconst (v := 0) hx hb dX8_lips_0 (by decide) ?_
  refine lv_istore_n (lv' := [(3, .int 0), (0, .ref (Z.1 30 0)), (1, .int a1), (2, .int a2)]) hx hb dX8_lips_1 rfl hl (by decide) rfl (fun ls hl => ?_)
  refine lv_iconst (v := 0) hx hb dX8_lips_2 (by decide) ?_
  refine lv_istore (lv' := [(4, .int 0), (3, .int 0), (0, .ref (Z.1 30 0)), (1, .int a1), (2, .int a2)]) hx hb dX8_lips_3 hl (by decide) rfl (fun ls hl => ?_)
  have hl := lv_sub (l' := [(0, .ref (Z.1 30 0)), (1, .int a1), (2, .int a2), (3, .int 0), (4, .int 0)]) hl [2, 3, 4, 1, 0] rfl
  exact loop5 2000 0 0 _ _ _ hF hw hl
abbrev rmX8_takesBy : Room := { frames := 1, cells := 0, slots := 0, locals := 24 }
def g_X8_takesBy (v : Mm) (a1 : Int32) (a2 : Int32) (a3 : Int32) (a4 : Int32) : Option (Int32) := if a1 = 1 then (Option.bind (g_X8_distance v a2 a3) (fun r3 => if r3 = 0 then (some 1) else (some 0))) else (if a1 = 2 then (Option.bind (g_X8_distance v a2 a3) (fun r8 => if 2 ≤ r8 then (some 0) else (some 1))) else (if a1 = 3 then (Option.bind (g_X8_distance v a2 a3) (fun r13 => if r13 = 0 then (if a4 - a4 / 2 * 2 = 0 then (some 1) else (some 0)) else (some 0))) else (if a1 = 4 then (Option.bind (g_X8_lips v a2 a3) (fun r19 => if r19 = 3 then (some 1) else (some 0))) else (Option.bind (g_X8_lips v a2 a3) (fun r23 => if r23 ≤ 1 then (some 0) else (some 1))))))
set_option maxHeartbeats 4000000 in
set_option maxRecDepth 100000 in
theorem d_X8_takesBy (l : Launch) (E : kq_T) (Z : km_Z) (v : Mm) (a1 : Int32) (a2 : Int32) (a3 : Int32) (a4 : Int32) (hs : g_X8_takesBy v a1 a2 a3 a4 ≠ none) : km_I l E Z cntM yX8_takesBy wsX8_takesBy rmX8_takesBy [.ref (Z.1 30 0), .int a1, .int a2, .int a3, .int a4] v (fun r v1 => (g_X8_takesBy v a1 a2 a3 a4 = some r ∧ v = v1) ∧ (r = 0 ∨ r = 1)) := by
  refine km_goZ (cc := cX8_takesBy) (maxL := 5) (post := fun r v1 => g_X8_takesBy v a1 a2 a3 a4 = some r ∧ v = v1) (by decide) rfl (Nat.le_of_ble_eq_true rfl) rfl rfl rfl ?_
  intro p e s m below meth c A ls Q C hK hw hl hret
  obtain ⟨hx, hb, hml, hown, hts, -, -, -⟩ := C
  have hown : s.vm.findClass RX8 = some m.cls := hown
  have hl : lv_has ls 5 [(0, .ref (Z.1 30 0)), (1, .int a1), (2, .int a2), (3, .int a3), (4, .int a4)] := hl
  have hF := g_X8_takesBy.eq_1 v a1 a2 a3 a4
  refine lv_iload_n hx hb dX8_takesBy_0 rfl (lv_at hl 1 rfl) ?_
  by_cases c1 : a1 = 1
  · skip
    have hF := hF.trans (if_pos c1)
    refine lv_tableIn (tgt := 32) (off := 31) hx hb dX8_takesBy_1 (by rw [c1]; decide) (by rw [c1]; decide) (by rw [c1]; rfl) (by decide) ?_
    refine lv_aload_n hx hb dX8_takesBy_32 rfl (lv_at hl 0 rfl) ?_
    refine lv_iload_n hx hb dX8_takesBy_33 rfl (lv_at hl 2 rfl) ?_
    refine lv_iload_n hx hb dX8_takesBy_34 rfl (lv_at hl 3 rfl) ?_
    have hs2 : g_X8_distance v a2 a3 ≠ none := fun q => hs (hF.trans (kb_n q _))
    refine km_cI (As := [.int a2, .int a3]) (rest := []) (n := 2) (q := (RX8, TX8, 23)) (ci := 8) (t := 30) (i := 0) ⟨hx, hb, hml, hown, hts⟩ (d_X8_distance l E Z v a2 a3 hs2) gX8_takesBy_X8_distance rfl hV_X8_distance ⟨Nat.le_of_ble_eq_true rfl, Nat.le_of_ble_eq_true rfl⟩ hK hw (by decide) (by decide) rfl rfl rfl hl.1 rfl (Nat.le_of_ble_eq_true rfl) dX8_takesBy_35 rfl rfl (fun r3 v4 H locs hp hw => ?_)
    obtain ⟨hp, rfl⟩ := hp
    have hF := hF.trans (kb_some hp _)
    refine lv_if_ne (tgt := 45) hx hb dX8_takesBy_38 (by decide) (fun c5 => ?_) (fun c5 => ?_)
    · skip
      have hF := hF.trans (if_neg c5)
      refine lv_iconst (v := 0) hx hb dX8_takesBy_45 (by decide) ?_
      exact hret _ _ _ _ _ _ hw dX8_takesBy_46 (Or.inl rfl) ⟨hF, rfl⟩
    · skip
      have hF := hF.trans (if_pos c5)
      refine lv_iconst (v := 1) hx hb dX8_takesBy_41 (by decide) ?_
      refine lv_goto (tgt := 46) hx hb dX8_takesBy_42 (by decide) ?_
      exact hret _ _ _ _ _ _ hw dX8_takesBy_46 (Or.inr rfl) ⟨hF, rfl⟩
  have hF := hF.trans (if_neg c1)
  by_cases c6 : a1 = 2
  · skip
    have hF := hF.trans (if_pos c6)
    refine lv_tableIn (tgt := 47) (off := 46) hx hb dX8_takesBy_1 (by rw [c6]; decide) (by rw [c6]; decide) (by rw [c6]; rfl) (by decide) ?_
    refine lv_aload_n hx hb dX8_takesBy_47 rfl (lv_at hl 0 rfl) ?_
    refine lv_iload_n hx hb dX8_takesBy_48 rfl (lv_at hl 2 rfl) ?_
    refine lv_iload_n hx hb dX8_takesBy_49 rfl (lv_at hl 3 rfl) ?_
    have hs7 : g_X8_distance v a2 a3 ≠ none := fun q => hs (hF.trans (kb_n q _))
    refine km_cI (As := [.int a2, .int a3]) (rest := []) (n := 2) (q := (RX8, TX8, 23)) (ci := 8) (t := 30) (i := 0) ⟨hx, hb, hml, hown, hts⟩ (d_X8_distance l E Z v a2 a3 hs7) gX8_takesBy_X8_distance rfl hV_X8_distance ⟨Nat.le_of_ble_eq_true rfl, Nat.le_of_ble_eq_true rfl⟩ hK hw (by decide) (by decide) rfl rfl rfl hl.1 rfl (Nat.le_of_ble_eq_true rfl) dX8_takesBy_50 rfl rfl (fun r8 v9 H locs hp hw => ?_)
    obtain ⟨hp, rfl⟩ := hp
    have hF := hF.trans (kb_some hp _)
    refine lv_iconst (v := 2) hx hb dX8_takesBy_53 (by decide) ?_
    refine lv_icmp_ge (tgt := 61) hx hb dX8_takesBy_54 (by decide) (fun c10 => ?_) (fun c10 => ?_)
    · skip
      have hF := hF.trans (if_pos c10)
      refine lv_iconst (v := 0) hx hb dX8_takesBy_61 (by decide) ?_
      exact hret _ _ _ _ _ _ hw dX8_takesBy_62 (Or.inl rfl) ⟨hF, rfl⟩
    · skip
      have hF := hF.trans (if_neg c10)
      refine lv_iconst (v := 1) hx hb dX8_takesBy_57 (by decide) ?_
      refine lv_goto (tgt := 62) hx hb dX8_takesBy_58 (by decide) ?_
      exact hret _ _ _ _ _ _ hw dX8_takesBy_62 (Or.inr rfl) ⟨hF, rfl⟩
  have hF := hF.trans (if_neg c6)
  by_cases c11 : a1 = 3
  · skip
    have hF := hF.trans (if_pos c11)
    refine lv_tableIn (tgt := 63) (off := 62) hx hb dX8_takesBy_1 (by rw [c11]; decide) (by rw [c11]; decide) (by rw [c11]; rfl) (by decide) ?_
    refine lv_aload_n hx hb dX8_takesBy_63 rfl (lv_at hl 0 rfl) ?_
    refine lv_iload_n hx hb dX8_takesBy_64 rfl (lv_at hl 2 rfl) ?_
    refine lv_iload_n hx hb dX8_takesBy_65 rfl (lv_at hl 3 rfl) ?_
    have hs12 : g_X8_distance v a2 a3 ≠ none := fun q => hs (hF.trans (kb_n q _))
    refine km_cI (As := [.int a2, .int a3]) (rest := []) (n := 2) (q := (RX8, TX8, 23)) (ci := 8) (t := 30) (i := 0) ⟨hx, hb, hml, hown, hts⟩ (d_X8_distance l E Z v a2 a3 hs12) gX8_takesBy_X8_distance rfl hV_X8_distance ⟨Nat.le_of_ble_eq_true rfl, Nat.le_of_ble_eq_true rfl⟩ hK hw (by decide) (by decide) rfl rfl rfl hl.1 rfl (Nat.le_of_ble_eq_true rfl) dX8_takesBy_66 rfl rfl (fun r13 v14 H locs hp hw => ?_)
    obtain ⟨hp, rfl⟩ := hp
    have hF := hF.trans (kb_some hp _)
    refine lv_if_ne (tgt := 83) hx hb dX8_takesBy_69 (by decide) (fun c15 => ?_) (fun c15 => ?_)
    · skip
      have hF := hF.trans (if_neg c15)
      refine lv_iconst (v := 0) hx hb dX8_takesBy_83 (by decide) ?_
      exact hret _ _ _ _ _ _ hw dX8_takesBy_84 (Or.inl rfl) ⟨hF, rfl⟩
    · skip
      have hF := hF.trans (if_pos c15)
      refine lv_iload hx hb dX8_takesBy_72 (lv_at hl 4 rfl) ?_
      refine lv_iconst (v := 2) hx hb dX8_takesBy_74 (by decide) ?_
      refine lv_irem hx hb dX8_takesBy_75 (by decide) ?_
      refine lv_if_ne (tgt := 83) hx hb dX8_takesBy_76 (by decide) (fun c16 => ?_) (fun c16 => ?_)
      · skip
        have hF := hF.trans (if_neg c16)
        refine lv_iconst (v := 0) hx hb dX8_takesBy_83 (by decide) ?_
        exact hret _ _ _ _ _ _ hw dX8_takesBy_84 (Or.inl rfl) ⟨hF, rfl⟩
      · skip
        have hF := hF.trans (if_pos c16)
        refine lv_iconst (v := 1) hx hb dX8_takesBy_79 (by decide) ?_
        refine lv_goto (tgt := 84) hx hb dX8_takesBy_80 (by decide) ?_
        exact hret _ _ _ _ _ _ hw dX8_takesBy_84 (Or.inr rfl) ⟨hF, rfl⟩
  have hF := hF.trans (if_neg c11)
  by_cases c17 : a1 = 4
  · skip
    have hF := hF.trans (if_pos c17)
    refine lv_tableIn (tgt := 85) (off := 84) hx hb dX8_takesBy_1 (by rw [c17]; decide) (by rw [c17]; decide) (by rw [c17]; rfl) (by decide) ?_
    refine lv_aload_n hx hb dX8_takesBy_85 rfl (lv_at hl 0 rfl) ?_
    refine lv_iload_n hx hb dX8_takesBy_86 rfl (lv_at hl 2 rfl) ?_
    refine lv_iload_n hx hb dX8_takesBy_87 rfl (lv_at hl 3 rfl) ?_
    have hs18 : g_X8_lips v a2 a3 ≠ none := fun q => hs (hF.trans (kb_n q _))
    refine km_cI (As := [.int a2, .int a3]) (rest := []) (n := 2) (q := (RX8, TX8, 23)) (ci := 8) (t := 30) (i := 0) ⟨hx, hb, hml, hown, hts⟩ (d_X8_lips l E Z v a2 a3 hs18) gX8_takesBy_X8_lips rfl hV_X8_lips ⟨Nat.le_of_ble_eq_true rfl, Nat.le_of_ble_eq_true rfl⟩ hK hw (by decide) (by decide) rfl rfl rfl hl.1 rfl (Nat.le_of_ble_eq_true rfl) dX8_takesBy_88 rfl rfl (fun r19 v20 H locs hp hw => ?_)
    obtain ⟨hp, rfl⟩ := hp
    have hF := hF.trans (kb_some hp _)
    refine lv_iconst (v := 3) hx hb dX8_takesBy_91 (by decide) ?_
    refine lv_icmp_ne (tgt := 99) hx hb dX8_takesBy_92 (by decide) (fun c21 => ?_) (fun c21 => ?_)
    · skip
      have hF := hF.trans (if_neg c21)
      refine lv_iconst (v := 0) hx hb dX8_takesBy_99 (by decide) ?_
      exact hret _ _ _ _ _ _ hw dX8_takesBy_100 (Or.inl rfl) ⟨hF, rfl⟩
    · skip
      have hF := hF.trans (if_pos c21)
      refine lv_iconst (v := 1) hx hb dX8_takesBy_95 (by decide) ?_
      refine lv_goto (tgt := 100) hx hb dX8_takesBy_96 (by decide) ?_
      exact hret _ _ _ _ _ _ hw dX8_takesBy_100 (Or.inr rfl) ⟨hF, rfl⟩
  have hF := hF.trans (if_neg c17)
  have nc1 : ¬ Int32.toInt a1 = 1 := fun q => c1 (Int32.toInt_inj.mp (q.trans (by decide)))
  have nc6 : ¬ Int32.toInt a1 = 2 := fun q => c6 (Int32.toInt_inj.mp (q.trans (by decide)))
  have nc11 : ¬ Int32.toInt a1 = 3 := fun q => c11 (Int32.toInt_inj.mp (q.trans (by decide)))
  have nc17 : ¬ Int32.toInt a1 = 4 := fun q => c17 (Int32.toInt_inj.mp (q.trans (by decide)))
  refine lv_tableOut (tgt := 101) hx hb dX8_takesBy_1 (by omega) (by decide) ?_
  refine lv_aload_n hx hb dX8_takesBy_101 rfl (lv_at hl 0 rfl) ?_
  refine lv_iload_n hx hb dX8_takesBy_102 rfl (lv_at hl 2 rfl) ?_
  refine lv_iload_n hx hb dX8_takesBy_103 rfl (lv_at hl 3 rfl) ?_
  have hs22 : g_X8_lips v a2 a3 ≠ none := fun q => hs (hF.trans (kb_n q _))
  refine km_cI (As := [.int a2, .int a3]) (rest := []) (n := 2) (q := (RX8, TX8, 23)) (ci := 8) (t := 30) (i := 0) ⟨hx, hb, hml, hown, hts⟩ (d_X8_lips l E Z v a2 a3 hs22) gX8_takesBy_X8_lips rfl hV_X8_lips ⟨Nat.le_of_ble_eq_true rfl, Nat.le_of_ble_eq_true rfl⟩ hK hw (by decide) (by decide) rfl rfl rfl hl.1 rfl (Nat.le_of_ble_eq_true rfl) dX8_takesBy_104 rfl rfl (fun r23 v24 H locs hp hw => ?_)
  obtain ⟨hp, rfl⟩ := hp
  have hF := hF.trans (kb_some hp _)
  refine lv_iconst (v := 1) hx hb dX8_takesBy_107 (by decide) ?_
  refine lv_icmp_le (tgt := 115) hx hb dX8_takesBy_108 (by decide) (fun c25 => ?_) (fun c25 => ?_)
  · skip
    have hF := hF.trans (if_pos c25)
    refine lv_iconst (v := 0) hx hb dX8_takesBy_115 (by decide) ?_
    exact hret _ _ _ _ _ _ hw dX8_takesBy_116 (Or.inl rfl) ⟨hF, rfl⟩
  · skip
    have hF := hF.trans (if_neg c25)
    refine lv_iconst (v := 1) hx hb dX8_takesBy_111 (by decide) ?_
    refine lv_goto (tgt := 116) hx hb dX8_takesBy_112 (by decide) ?_
    exact hret _ _ _ _ _ _ hw dX8_takesBy_116 (Or.inr rfl) ⟨hF, rfl⟩
abbrev rmX8_guardOn : Room := { frames := 0, cells := 0, slots := 0, locals := 0 }
def g_X8_guardOn (v : Mm) (a1 : Int32) (a2 : Int32) : Option (Int32) := if v 36 0 (Int32.toNatClampNeg 4) = 0 then none else (some ((a2 + a1) - (a2 + a1) / (v 36 0 (Int32.toNatClampNeg 4)) * (v 36 0 (Int32.toNatClampNeg 4))))
set_option maxHeartbeats 4000000 in
set_option maxRecDepth 100000 in
theorem d_X8_guardOn (l : Launch) (E : kq_T) (Z : km_Z) (v : Mm) (a1 : Int32) (a2 : Int32) (hs : g_X8_guardOn v a1 a2 ≠ none) : km_I l E Z cntM yX8_guardOn wsX8_guardOn rmX8_guardOn [.ref (Z.1 30 0), .int a1, .int a2] v (fun r v1 => g_X8_guardOn v a1 a2 = some r ∧ v = v1) := by
  refine km_goI (cc := cX8_guardOn) (maxL := 3) (by decide) rfl (Nat.le_of_ble_eq_true rfl) rfl rfl rfl ?_
  intro p e s m below meth c A ls Q C hK hw hl hret
  obtain ⟨hx, hb, hml, hown, hts, -, -, -⟩ := C
  have hown : s.vm.findClass RX8 = some m.cls := hown
  have hl : lv_has ls 3 [(0, .ref (Z.1 30 0)), (1, .int a1), (2, .int a2)] := hl
  have hF := g_X8_guardOn.eq_1 v a1 a2
  refine lv_iload_n hx hb dX8_guardOn_0 rfl (lv_at hl 2 rfl) ?_
  refine lv_iload_n hx hb dX8_guardOn_1 rfl (lv_at hl 1 rfl) ?_
  refine lv_iadd hx hb dX8_guardOn_2 ?_
  refine lv_aload_n hx hb dX8_guardOn_3 rfl (lv_at hl 0 rfl) ?_
  refine km_get (ci := 8) (C := RX8) (T := TX8) (N := 23) (t := 30) (i := 0) hx hb hts fi_X8_guardOn_X8 hown hK hw (by decide) (by decide) rfl rfl 13 (by decide) (hts (.fieldLink RX8 25 "WrongWordModel" "now" "[I") ow_X8_guardOn_25) rfl dX8_guardOn_4 ?_
  refine lv_iconst (v := 4) hx hb dX8_guardOn_7 (by decide) ?_
  refine km_iald (t := 36) (i := 0) hx hb hK hw (by decide) (by decide) rfl (by unfold vp_in; decide) dX8_guardOn_8 ?_
  have hb1 : ¬ v 36 0 (Int32.toNatClampNeg 4) = 0 := fun q => hs (hF.trans (if_pos q))
  have hF := hF.trans (if_neg hb1)
  refine lv_irem hx hb dX8_guardOn_9 hb1 ?_
  exact hret _ _ _ _ _ _ hw dX8_guardOn_10 ⟨hF, rfl⟩
abbrev rmX8_kindIn : Room := { frames := 0, cells := 0, slots := 0, locals := 0 }
def g_X8_kindIn (v : Mm) (a1 : Int32) : Option (Int32) := if (26 : Int32) + ((3 : Int32) * a1) < 0 ∨ 65 ≤ Int32.toNatClampNeg ((26 : Int32) + ((3 : Int32) * a1)) then none else (some (v 36 0 (Int32.toNatClampNeg ((26 : Int32) + ((3 : Int32) * a1)))))
set_option maxHeartbeats 4000000 in
set_option maxRecDepth 100000 in
theorem d_X8_kindIn (l : Launch) (E : kq_T) (Z : km_Z) (v : Mm) (a1 : Int32) (hs : g_X8_kindIn v a1 ≠ none) : km_I l E Z cntM yX8_kindIn wsX8_kindIn rmX8_kindIn [.ref (Z.1 30 0), .int a1] v (fun r v1 => g_X8_kindIn v a1 = some r ∧ v = v1) := by
  refine km_goI (cc := cX8_kindIn) (maxL := 2) (by decide) rfl (Nat.le_of_ble_eq_true rfl) rfl rfl rfl ?_
  intro p e s m below meth c A ls Q C hK hw hl hret
  obtain ⟨hx, hb, hml, hown, hts, -, -, -⟩ := C
  have hown : s.vm.findClass RX8 = some m.cls := hown
  have hl : lv_has ls 2 [(0, .ref (Z.1 30 0)), (1, .int a1)] := hl
  have hF := g_X8_kindIn.eq_1 v a1
  refine lv_aload_n hx hb dX8_kindIn_0 rfl (lv_at hl 0 rfl) ?_
  refine km_get (ci := 8) (C := RX8) (T := TX8) (N := 23) (t := 30) (i := 0) hx hb hts fi_X8_kindIn_X8 hown hK hw (by decide) (by decide) rfl rfl 13 (by decide) (hts (.fieldLink RX8 25 "WrongWordModel" "now" "[I") ow_X8_kindIn_25) rfl dX8_kindIn_1 ?_
  refine lv_bipush (v := 26) hx hb dX8_kindIn_4 (by decide) ?_
  refine lv_iconst (v := 3) hx hb dX8_kindIn_6 (by decide) ?_
  refine lv_iload_n hx hb dX8_kindIn_7 rfl (lv_at hl 1 rfl) ?_
  refine lv_imul hx hb dX8_kindIn_8 ?_
  refine lv_iadd hx hb dX8_kindIn_9 ?_
  have hb1 : ¬ ((26 : Int32) + ((3 : Int32) * a1) < 0 ∨ 65 ≤ Int32.toNatClampNeg ((26 : Int32) + ((3 : Int32) * a1))) := fun q => hs (hF.trans (if_pos q))
  have hF := hF.trans (if_neg hb1)
  refine km_iald (t := 36) (i := 0) hx hb hK hw (by decide) (by decide) rfl hb1 dX8_kindIn_10 ?_
  exact hret _ _ _ _ _ _ hw dX8_kindIn_11 ⟨hF, rfl⟩
abbrev rmX8_isTaken : Room := { frames := 2, cells := 0, slots := 0, locals := 48 }
def g_X8_isTaken (v : Mm) (a1 : Int32) (a2 : Int32) (a3 : Int32) (a4 : Int32) (a5 : Int32) : Option (Int32) := Option.bind (g_X8_guardOn v a2 a3) (fun r2 => Option.bind (g_X8_has v a4 r2) (fun r5 => if r5 = 0 then (some 0) else (Option.bind (g_X8_kindIn v r2) (fun r9 => Option.bind (g_X8_takesBy v r9 a1 a5 a3) (fun r12 => if r12 = 0 then (some 0) else (some 1))))))
set_option maxHeartbeats 4000000 in
set_option maxRecDepth 100000 in
theorem d_X8_isTaken (l : Launch) (E : kq_T) (Z : km_Z) (v : Mm) (a1 : Int32) (a2 : Int32) (a3 : Int32) (a4 : Int32) (a5 : Int32) (hs : g_X8_isTaken v a1 a2 a3 a4 a5 ≠ none) : km_I l E Z cntM yX8_isTaken wsX8_isTaken rmX8_isTaken [.ref (Z.1 30 0), .int a1, .int a2, .int a3, .int a4, .int a5] v (fun r v1 => (g_X8_isTaken v a1 a2 a3 a4 a5 = some r ∧ v = v1) ∧ (r = 0 ∨ r = 1)) := by
  refine km_goZ (cc := cX8_isTaken) (maxL := 7) (post := fun r v1 => g_X8_isTaken v a1 a2 a3 a4 a5 = some r ∧ v = v1) (by decide) rfl (Nat.le_of_ble_eq_true rfl) rfl rfl rfl ?_
  intro p e s m below meth c A ls Q C hK hw hl hret
  obtain ⟨hx, hb, hml, hown, hts, -, -, -⟩ := C
  have hown : s.vm.findClass RX8 = some m.cls := hown
  have hl : lv_has ls 7 [(0, .ref (Z.1 30 0)), (1, .int a1), (2, .int a2), (3, .int a3), (4, .int a4), (5, .int a5)] := hl
  have hF := g_X8_isTaken.eq_1 v a1 a2 a3 a4 a5
  refine lv_aload_n hx hb dX8_isTaken_0 rfl (lv_at hl 0 rfl) ?_
  refine lv_iload_n hx hb dX8_isTaken_1 rfl (lv_at hl 2 rfl) ?_
  refine lv_iload_n hx hb dX8_isTaken_2 rfl (lv_at hl 3 rfl) ?_
  have hs1 : g_X8_guardOn v a2 a3 ≠ none := fun q => hs (hF.trans (kb_n q _))
  refine km_cI (As := [.int a2, .int a3]) (rest := []) (n := 2) (q := (RX8, TX8, 23)) (ci := 8) (t := 30) (i := 0) ⟨hx, hb, hml, hown, hts⟩ (d_X8_guardOn l E Z v a2 a3 hs1) gX8_isTaken_X8_guardOn rfl hV_X8_guardOn ⟨Nat.le_of_ble_eq_true rfl, Nat.le_of_ble_eq_true rfl⟩ hK hw (by decide) (by decide) rfl rfl rfl hl.1 rfl (Nat.le_of_ble_eq_true rfl) dX8_isTaken_3 rfl rfl (fun r2 v3 H locs hp hw => ?_)
  obtain ⟨hp, rfl⟩ := hp
  have hF := hF.trans (kb_some hp _)
  refine lv_istore (lv' := [(6, .int r2), (0, .ref (Z.1 30 0)), (1, .int a1), (2, .int a2), (3, .int a3), (4, .int a4), (5, .int a5)]) hx hb dX8_isTaken_6 hl (by decide) rfl (fun ls hl => ?_)
  refine lv_iload hx hb dX8_isTaken_8 (lv_at hl 5 rfl) ?_
  refine lv_iload hx hb dX8_isTaken_10 (lv_at hl 0 rfl) ?_
  have hs4 : g_X8_has v a4 r2 ≠ none := fun q => hs (hF.trans (kb_n q _))
  refine km_cS (As := [.int a4, .int r2]) (rest := []) (n := 2) ⟨hx, hb, hml, hown, hts⟩ (d_X8_has l E Z v a4 r2 hs4) gX8_isTaken_X8_has rfl hV_X8_has ⟨Nat.le_of_ble_eq_true rfl, Nat.le_of_ble_eq_true rfl⟩ hK hw rfl hl.1 rfl (Nat.le_of_ble_eq_true rfl) dX8_isTaken_12 rfl rfl (fun r5 v6 H locs hp hw => ?_)
  obtain ⟨hp, hzr5⟩ := hp
  obtain ⟨hp, rfl⟩ := hp
  have hF := hF.trans (kb_some hp _)
  refine lv_if_eq (tgt := 39) hx hb dX8_isTaken_15 (by decide) (fun c7 => ?_) (fun c7 => ?_)
  · skip
    have hF := hF.trans (if_pos c7)
    refine lv_iconst (v := 0) hx hb dX8_isTaken_39 (by decide) ?_
    exact hret _ _ _ _ _ _ hw dX8_isTaken_40 (Or.inl rfl) ⟨hF, rfl⟩
  · skip
    have hF := hF.trans (if_neg c7)
    refine lv_aload_n hx hb dX8_isTaken_18 rfl (lv_at hl 1 rfl) ?_
    refine lv_aload_n hx hb dX8_isTaken_19 rfl (lv_at hl 1 rfl) ?_
    refine lv_iload hx hb dX8_isTaken_20 (lv_at hl 0 rfl) ?_
    have hs8 : g_X8_kindIn v r2 ≠ none := fun q => hs (hF.trans (kb_n q _))
    refine km_cI (As := [.int r2]) (rest := [.ref (Z.1 30 0)]) (n := 1) (q := (RX8, TX8, 23)) (ci := 8) (t := 30) (i := 0) ⟨hx, hb, hml, hown, hts⟩ (d_X8_kindIn l E Z v r2 hs8) gX8_isTaken_X8_kindIn rfl hV_X8_kindIn ⟨Nat.le_of_ble_eq_true rfl, Nat.le_of_ble_eq_true rfl⟩ hK hw (by decide) (by decide) rfl rfl rfl hl.1 rfl (Nat.le_of_ble_eq_true rfl) dX8_isTaken_22 rfl rfl (fun r9 v10 H locs hp hw => ?_)
    obtain ⟨hp, rfl⟩ := hp
    have hF := hF.trans (kb_some hp _)
    refine lv_iload_n hx hb dX8_isTaken_25 rfl (lv_at hl 2 rfl) ?_
    refine lv_iload hx hb dX8_isTaken_26 (lv_at hl 6 rfl) ?_
    refine lv_iload_n hx hb dX8_isTaken_28 rfl (lv_at hl 4 rfl) ?_
    have hs11 : g_X8_takesBy v r9 a1 a5 a3 ≠ none := fun q => hs (hF.trans (kb_n q _))
    refine km_cI (As := [.int r9, .int a1, .int a5, .int a3]) (rest := []) (n := 4) (q := (RX8, TX8, 23)) (ci := 8) (t := 30) (i := 0) ⟨hx, hb, hml, hown, hts⟩ (d_X8_takesBy l E Z v r9 a1 a5 a3 hs11) gX8_isTaken_X8_takesBy rfl hV_X8_takesBy ⟨Nat.le_of_ble_eq_true rfl, Nat.le_of_ble_eq_true rfl⟩ hK hw (by decide) (by decide) rfl rfl rfl hl.1 rfl (Nat.le_of_ble_eq_true rfl) dX8_isTaken_29 rfl rfl (fun r12 v13 H locs hp hw => ?_)
    obtain ⟨hp, hzr12⟩ := hp
    obtain ⟨hp, rfl⟩ := hp
    have hF := hF.trans (kb_some hp _)
    refine lv_if_eq (tgt := 39) hx hb dX8_isTaken_32 (by decide) (fun c14 => ?_) (fun c14 => ?_)
    · skip
      have hF := hF.trans (if_pos c14)
      refine lv_iconst (v := 0) hx hb dX8_isTaken_39 (by decide) ?_
      exact hret _ _ _ _ _ _ hw dX8_isTaken_40 (Or.inl rfl) ⟨hF, rfl⟩
    · skip
      have hF := hF.trans (if_neg c14)
      refine lv_iconst (v := 1) hx hb dX8_isTaken_35 (by decide) ?_
      refine lv_goto (tgt := 40) hx hb dX8_isTaken_36 (by decide) ?_
      exact hret _ _ _ _ _ _ hw dX8_isTaken_40 (Or.inr rfl) ⟨hF, rfl⟩
abbrev rmX8_isTakenNow : Room := { frames := 3, cells := 0, slots := 0, locals := 74 }
def g_X8_isTakenNow (v : Mm) (a1 : Int32) (a2 : Int32) (a3 : Int32) : Option (Int32) := Option.bind (some ((v 36 0 (Int32.toNatClampNeg 5)) + a3)) (fun x1 => Option.bind (g_X8_secretOf_36 v x1) (fun r3 => Option.bind (g_X8_isTaken v a1 a2 x1 (v 36 0 (Int32.toNatClampNeg 6)) r3) (fun r6 => some r6)))
set_option maxHeartbeats 4000000 in
set_option maxRecDepth 100000 in
theorem d_X8_isTakenNow (l : Launch) (E : kq_T) (Z : km_Z) (v : Mm) (a1 : Int32) (a2 : Int32) (a3 : Int32) (hs : g_X8_isTakenNow v a1 a2 a3 ≠ none) : km_I l E Z cntM yX8_isTakenNow wsX8_isTakenNow rmX8_isTakenNow [.ref (Z.1 30 0), .int a1, .int a2, .int a3] v (fun r v1 => (g_X8_isTakenNow v a1 a2 a3 = some r ∧ v = v1) ∧ (r = 0 ∨ r = 1)) := by
  refine km_goZ (cc := cX8_isTakenNow) (maxL := 5) (post := fun r v1 => g_X8_isTakenNow v a1 a2 a3 = some r ∧ v = v1) (by decide) rfl (Nat.le_of_ble_eq_true rfl) rfl rfl rfl ?_
  intro p e s m below meth c A ls Q C hK hw hl hret
  obtain ⟨hx, hb, hml, hown, hts, -, -, -⟩ := C
  have hown : s.vm.findClass RX8 = some m.cls := hown
  have hl : lv_has ls 5 [(0, .ref (Z.1 30 0)), (1, .int a1), (2, .int a2), (3, .int a3)] := hl
  have hF := g_X8_isTakenNow.eq_1 v a1 a2 a3
  refine lv_aload_n hx hb dX8_isTakenNow_0 rfl (lv_at hl 0 rfl) ?_
  refine km_get (ci := 8) (C := RX8) (T := TX8) (N := 23) (t := 30) (i := 0) hx hb hts fi_X8_isTakenNow_X8 hown hK hw (by decide) (by decide) rfl rfl 13 (by decide) (hts (.fieldLink RX8 25 "WrongWordModel" "now" "[I") ow_X8_isTakenNow_25) rfl dX8_isTakenNow_1 ?_
  refine lv_iconst (v := 5) hx hb dX8_isTakenNow_4 (by decide) ?_
  refine km_iald (t := 36) (i := 0) hx hb hK hw (by decide) (by decide) rfl (by unfold vp_in; decide) dX8_isTakenNow_5 ?_
  refine lv_iload_n hx hb dX8_isTakenNow_6 rfl (lv_at hl 3 rfl) ?_
  refine lv_iadd hx hb dX8_isTakenNow_7 ?_
  refine lv_topi (fun x1 ex1 => ?_)
  have hF := hF.trans (kb_some (congrArg some ex1.symm) _)
  refine lv_istore (lv' := [(4, .int x1), (0, .ref (Z.1 30 0)), (1, .int a1), (2, .int a2), (3, .int a3)]) hx hb dX8_isTakenNow_8 hl (by decide) rfl (fun ls hl => ?_)
  refine lv_aload_n hx hb dX8_isTakenNow_10 rfl (lv_at hl 1 rfl) ?_
  refine lv_iload_n hx hb dX8_isTakenNow_11 rfl (lv_at hl 2 rfl) ?_
  refine lv_iload_n hx hb dX8_isTakenNow_12 rfl (lv_at hl 3 rfl) ?_
  refine lv_iload hx hb dX8_isTakenNow_13 (lv_at hl 0 rfl) ?_
  refine lv_aload_n hx hb dX8_isTakenNow_15 rfl (lv_at hl 1 rfl) ?_
  refine km_get (ci := 8) (C := RX8) (T := TX8) (N := 23) (t := 30) (i := 0) hx hb hts fi_X8_isTakenNow_X8 hown hK hw (by decide) (by decide) rfl rfl 13 (by decide) (hts (.fieldLink RX8 25 "WrongWordModel" "now" "[I") ow_X8_isTakenNow_25) rfl dX8_isTakenNow_16 ?_
  refine lv_bipush (v := 6) hx hb dX8_isTakenNow_19 (by decide) ?_
  refine km_iald (t := 36) (i := 0) hx hb hK hw (by decide) (by decide) rfl (by unfold vp_in; decide) dX8_isTakenNow_21 ?_
  refine lv_aload_n hx hb dX8_isTakenNow_22 rfl (lv_at hl 1 rfl) ?_
  refine km_get (ci := 8) (C := RX8) (T := TX8) (N := 23) (t := 30) (i := 0) hx hb hts fi_X8_isTakenNow_X8 hown hK hw (by decide) (by decide) rfl rfl 13 (by decide) (hts (.fieldLink RX8 25 "WrongWordModel" "now" "[I") ow_X8_isTakenNow_25) rfl dX8_isTakenNow_23 ?_
  refine lv_iload hx hb dX8_isTakenNow_26 (lv_at hl 0 rfl) ?_
  have hs2 : g_X8_secretOf_36 v x1 ≠ none := fun q => hs (hF.trans (kb_n q _))
  refine km_cS (As := [.ref (Z.1 36 0), .int x1]) (rest := [.int (v 36 0 (Int32.toNatClampNeg 6)), .int x1, .int a2, .int a1, .ref (Z.1 30 0)]) (n := 2) ⟨hx, hb, hml, hown, hts⟩ (d_X8_secretOf_36 l E Z v x1 hs2) gX8_isTakenNow_X8_secretOf rfl hV_X8_secretOf ⟨Nat.le_of_ble_eq_true rfl, Nat.le_of_ble_eq_true rfl⟩ hK hw rfl hl.1 rfl (Nat.le_of_ble_eq_true rfl) dX8_isTakenNow_28 rfl rfl (fun r3 v4 H locs hp hw => ?_)
  obtain ⟨hp, rfl⟩ := hp
  have hF := hF.trans (kb_some hp _)
  have hs5 : g_X8_isTaken v a1 a2 x1 (v 36 0 (Int32.toNatClampNeg 6)) r3 ≠ none := fun q => hs (hF.trans (kb_n q _))
  refine km_cI (As := [.int a1, .int a2, .int x1, .int (v 36 0 (Int32.toNatClampNeg 6)), .int r3]) (rest := []) (n := 5) (q := (RX8, TX8, 23)) (ci := 8) (t := 30) (i := 0) ⟨hx, hb, hml, hown, hts⟩ (d_X8_isTaken l E Z v a1 a2 x1 (v 36 0 (Int32.toNatClampNeg 6)) r3 hs5) gX8_isTakenNow_X8_isTaken rfl hV_X8_isTaken ⟨Nat.le_of_ble_eq_true rfl, Nat.le_of_ble_eq_true rfl⟩ hK hw (by decide) (by decide) rfl rfl rfl hl.1 rfl (Nat.le_of_ble_eq_true rfl) dX8_isTakenNow_31 rfl rfl (fun r6 v7 H locs hp hw => ?_)
  obtain ⟨hp, hzr6⟩ := hp
  obtain ⟨hp, rfl⟩ := hp
  have hF := hF.trans (kb_some hp _)
  exact hret _ _ _ _ _ _ hw dX8_isTakenNow_34 hzr6 ⟨hF, rfl⟩
abbrev rmX8_notes : Room := { frames := 1, cells := 0, slots := 0, locals := 24 }
def b_X8_notes_L11  (rec11 : Mm → Int32 → Option (Mm))  (w11 : Mm) (x1_11 : Int32) : Option (Mm) := if 1495 ≤ x1_11 then (Option.bind (some (up3 w11 30 0 17 ((w11 30 0 17) - 1))) (fun v7 => Option.bind (g_X8_copies_36_39 v7 0 ((65 : Int32) * (v7 30 0 17))) (fun v10 => Option.bind (some (up3 v10 30 0 17 ((v10 30 0 17) + 1))) (fun v11 => some v11)))) else (if x1_11 + 65 < 0 ∨ 1560 ≤ Int32.toNatClampNeg (x1_11 + 65) then none else (if x1_11 < 0 ∨ 1560 ≤ Int32.toNatClampNeg x1_11 then none else (Option.bind (some (up3 w11 39 0 (Int32.toNatClampNeg x1_11) (w11 39 0 (Int32.toNatClampNeg (x1_11 + 65))))) (fun v14 => rec11 v14 (x1_11 + 1)))))
def g_X8_notes_L11   : Nat → Mm → Int32 → Option (Mm)
  | 0 => fun _ _ => none
  | n + 1 => b_X8_notes_L11  (g_X8_notes_L11   n) 
def g_X8_notes (v : Mm)  : Option (Mm) := if v 30 0 17 = 24 then (g_X8_notes_L11   2000 v 0) else (Option.bind (g_X8_copies_36_39 v 0 ((65 : Int32) * (v 30 0 17))) (fun v4 => Option.bind (some (up3 v4 30 0 17 ((v4 30 0 17) + 1))) (fun v5 => some v5)))
set_option maxHeartbeats 4000000 in
set_option maxRecDepth 100000 in
theorem d_X8_notes (l : Launch) (E : kq_T) (Z : km_Z) (v : Mm) (hs : g_X8_notes v ≠ none) : km_V l E Z cntM yX8_notes wsX8_notes rmX8_notes [.ref (Z.1 30 0)] v (fun v1 => g_X8_notes v = some v1) := by
  refine km_goV (cc := cX8_notes) (maxL := 2) (by decide) rfl (Nat.le_of_ble_eq_true rfl) rfl rfl rfl ?_
  intro p e s m below meth c A ls Q C hK hw hl hret
  obtain ⟨hx, hb, hml, hown, hts, -, -, -⟩ := C
  have hown : s.vm.findClass RX8 = some m.cls := hown
  have hl : lv_has ls 2 [(0, .ref (Z.1 30 0))] := hl
  have hF := g_X8_notes.eq_1 v 
  have loop11 : ∀ (n11 : Nat) (w11 : Mm) (x1_11 : Int32) (H : Heap) (locs : List Loc) (ls : Array Slot), g_X8_notes v = g_X8_notes_L11   n11 w11 x1_11 → km_w E A s.heap [] Z cntM w11 H locs → lv_has ls 2 [(0, .ref (Z.1 30 0)), (1, .int x1_11)] → W p l e rmX8_notes s m [.ref (Z.1 30 0)].toArray below meth c H locs 0 0 Q (F0 m 11 ls []) := by
    intro n11
    induction n11 with
    | zero => intro w11 x1_11 H locs ls hF hw hl; exact absurd (show g_X8_notes v = none from hF) hs
    | succ n11 ih11 =>
      intro w11 x1_11 H locs ls hF hw hl
      have hF := hF.trans (b_X8_notes_L11.eq_1  (g_X8_notes_L11   n11)  w11 x1_11)
      refine lv_iload_n hx hb dX8_notes_11 rfl (lv_at hl 1 rfl) ?_
      refine lv_sipush (v := 1495) hx hb dX8_notes_12 (by decide) ?_
      refine lv_icmp_ge (tgt := 39) hx hb dX8_notes_15 (by decide) (fun c1 => ?_) (fun c1 => ?_)
      · skip
        have hF := hF.trans (if_pos c1)
        refine lv_aload_n hx hb dX8_notes_39 rfl (lv_at hl 0 rfl) ?_
        refine lv_dup hx hb dX8_notes_40 rfl ?_
        refine km_get (ci := 8) (C := RX8) (T := TX8) (N := 23) (t := 30) (i := 0) hx hb hts fi_X8_notes_X8 hown hK hw (by decide) (by decide) rfl rfl 17 (by decide) (hts (.fieldLink RX8 149 "WrongWordModel" "acts" "I") ow_X8_notes_149) rfl dX8_notes_41 ?_
        refine lv_iconst (v := 1) hx hb dX8_notes_44 (by decide) ?_
        refine lv_isub hx hb dX8_notes_45 ?_
        refine km_put (ci := 8) (C := RX8) (T := TX8) (N := 23) (t := 30) (i := 0) hx hb hts fi_X8_notes_X8 tyX8 tyX8_ok nmX8 hown hK hw (by decide) (by decide) rfl rfl 17 (by decide) (hts (.fieldLink RX8 149 "WrongWordModel" "acts" "I") ow_X8_notes_149) rfl (by decide +kernel) (Nat.le_of_ble_eq_true rfl) rfl dX8_notes_46 (fun H locs hw => ?_)
        obtain ⟨v2, ev2⟩ : ∃ z, z = up3 w11 30 0 17 ((w11 30 0 17) - 1) := ⟨_, rfl⟩
        rw [← ev2] at hw
        have hF := hF.trans (kb_some (congrArg some ev2.symm) _)
        refine lv_aload_n hx hb dX8_notes_49 rfl (lv_at hl 0 rfl) ?_
        refine km_get (ci := 8) (C := RX8) (T := TX8) (N := 23) (t := 30) (i := 0) hx hb hts fi_X8_notes_X8 hown hK hw (by decide) (by decide) rfl rfl 13 (by decide) (hts (.fieldLink RX8 25 "WrongWordModel" "now" "[I") ow_X8_notes_25) rfl dX8_notes_50 ?_
        refine lv_iconst (v := 0) hx hb dX8_notes_53 (by decide) ?_
        refine lv_aload_n hx hb dX8_notes_54 rfl (lv_at hl 0 rfl) ?_
        refine km_get (ci := 8) (C := RX8) (T := TX8) (N := 23) (t := 30) (i := 0) hx hb hts fi_X8_notes_X8 hown hK hw (by decide) (by decide) rfl rfl 16 (by decide) (hts (.fieldLink RX8 34 "WrongWordModel" "past" "[I") ow_X8_notes_34) rfl dX8_notes_55 ?_
        refine lv_bipush (v := 65) hx hb dX8_notes_58 (by decide) ?_
        refine lv_aload_n hx hb dX8_notes_60 rfl (lv_at hl 0 rfl) ?_
        refine km_get (ci := 8) (C := RX8) (T := TX8) (N := 23) (t := 30) (i := 0) hx hb hts fi_X8_notes_X8 hown hK hw (by decide) (by decide) rfl rfl 17 (by decide) (hts (.fieldLink RX8 149 "WrongWordModel" "acts" "I") ow_X8_notes_149) rfl dX8_notes_61 ?_
        refine lv_imul hx hb dX8_notes_64 ?_
        have hs3 : g_X8_copies_36_39 v2 0 ((65 : Int32) * (v2 30 0 17)) ≠ none := fun q => hs (hF.trans (kb_n q _))
        refine km_cSV (As := [.ref (Z.1 36 0), .int 0, .ref (Z.1 39 0), .int ((65 : Int32) * (v2 30 0 17))]) (rest := []) (n := 4) ⟨hx, hb, hml, hown, hts⟩ (d_X8_copies_36_39 l E Z v2 0 ((65 : Int32) * (v2 30 0 17)) hs3) gX8_notes_X8_copies rfl hV_X8_copies ⟨Nat.le_of_ble_eq_true rfl, Nat.le_of_ble_eq_true rfl⟩ hK hw rfl hl.1 rfl (Nat.le_of_ble_eq_true rfl) dX8_notes_65 rfl rfl (fun v5 H locs hp hw => ?_)
        have hF := hF.trans (kb_some hp _)
        refine lv_aload_n hx hb dX8_notes_68 rfl (lv_at hl 0 rfl) ?_
        refine lv_dup hx hb dX8_notes_69 rfl ?_
        refine km_get (ci := 8) (C := RX8) (T := TX8) (N := 23) (t := 30) (i := 0) hx hb hts fi_X8_notes_X8 hown hK hw (by decide) (by decide) rfl rfl 17 (by decide) (hts (.fieldLink RX8 149 "WrongWordModel" "acts" "I") ow_X8_notes_149) rfl dX8_notes_70 ?_
        refine lv_iconst (v := 1) hx hb dX8_notes_73 (by decide) ?_
        refine lv_iadd hx hb dX8_notes_74 ?_
        refine km_put (ci := 8) (C := RX8) (T := TX8) (N := 23) (t := 30) (i := 0) hx hb hts fi_X8_notes_X8 tyX8 tyX8_ok nmX8 hown hK hw (by decide) (by decide) rfl rfl 17 (by decide) (hts (.fieldLink RX8 149 "WrongWordModel" "acts" "I") ow_X8_notes_149) rfl (by decide +kernel) (Nat.le_of_ble_eq_true rfl) rfl dX8_notes_75 (fun H locs hw => ?_)
        obtain ⟨v6, ev6⟩ : ∃ z, z = up3 v5 30 0 17 ((v5 30 0 17) + 1) := ⟨_, rfl⟩
        rw [← ev6] at hw
        have hF := hF.trans (kb_some (congrArg some ev6.symm) _)
        exact hret _ _ _ _ _ hw dX8_notes_78 hF
      · skip
        have hF := hF.trans (if_neg c1)
        refine lv_aload_n hx hb dX8_notes_18 rfl (lv_at hl 0 rfl) ?_
        refine km_get (ci := 8) (C := RX8) (T := TX8) (N := 23) (t := 30) (i := 0) hx hb hts fi_X8_notes_X8 hown hK hw (by decide) (by decide) rfl rfl 16 (by decide) (hts (.fieldLink RX8 34 "WrongWordModel" "past" "[I") ow_X8_notes_34) rfl dX8_notes_19 ?_
        refine lv_iload_n hx hb dX8_notes_22 rfl (lv_at hl 1 rfl) ?_
        refine lv_aload_n hx hb dX8_notes_23 rfl (lv_at hl 0 rfl) ?_
        refine km_get (ci := 8) (C := RX8) (T := TX8) (N := 23) (t := 30) (i := 0) hx hb hts fi_X8_notes_X8 hown hK hw (by decide) (by decide) rfl rfl 16 (by decide) (hts (.fieldLink RX8 34 "WrongWordModel" "past" "[I") ow_X8_notes_34) rfl dX8_notes_24 ?_
        refine lv_iload_n hx hb dX8_notes_27 rfl (lv_at hl 1 rfl) ?_
        refine lv_bipush (v := 65) hx hb dX8_notes_28 (by decide) ?_
        refine lv_iadd hx hb dX8_notes_30 ?_
        have hb7 : ¬ (x1_11 + 65 < 0 ∨ 1560 ≤ Int32.toNatClampNeg (x1_11 + 65)) := fun q => hs (hF.trans (if_pos q))
        have hF := hF.trans (if_neg hb7)
        refine km_iald (t := 39) (i := 0) hx hb hK hw (by decide) (by decide) rfl hb7 dX8_notes_31 ?_
        have hb8 : ¬ (x1_11 < 0 ∨ 1560 ≤ Int32.toNatClampNeg x1_11) := fun q => hs (hF.trans (if_pos q))
        have hF := hF.trans (if_neg hb8)
        refine km_iast (t := 39) (i := 0) (n := 1560) hx hb hK hw (by decide) (by decide) (fun _ => rfl) hb8 dX8_notes_32 (fun H locs hw => ?_)
        obtain ⟨v9, ev9⟩ : ∃ z, z = up3 w11 39 0 (Int32.toNatClampNeg x1_11) (w11 39 0 (Int32.toNatClampNeg (x1_11 + 65))) := ⟨_, rfl⟩
        rw [← ev9] at hw
        have hF := hF.trans (kb_some (congrArg some ev9.symm) _)
        refine lv_iinc (v := x1_11 + 1) (lv' := [(1, .int (x1_11 + 1)), (0, .ref (Z.1 30 0))]) hx hb dX8_notes_33 hl (k := 1) rfl rfl (by decide) rfl (fun ls hl => ?_)
        refine lv_goto (tgt := 11) hx hb dX8_notes_36 (by decide) ?_
        have hl := lv_sub (l' := [(0, .ref (Z.1 30 0)), (1, .int (x1_11 + 1))]) hl [1, 0] rfl
        exact ih11 v9 (x1_11 + 1) _ _ _ hF hw hl
  refine lv_aload_n hx hb dX8_notes_0 rfl (lv_at hl 0 rfl) ?_
  refine km_get (ci := 8) (C := RX8) (T := TX8) (N := 23) (t := 30) (i := 0) hx hb hts fi_X8_notes_X8 hown hK hw (by decide) (by decide) rfl rfl 17 (by decide) (hts (.fieldLink RX8 149 "WrongWordModel" "acts" "I") ow_X8_notes_149) rfl dX8_notes_1 ?_
  refine lv_bipush (v := 24) hx hb dX8_notes_4 (by decide) ?_
  refine lv_icmp_ne (tgt := 49) hx hb dX8_notes_6 (by decide) (fun c10 => ?_) (fun c10 => ?_)
  · skip
    have hF := hF.trans (if_neg c10)
    refine lv_aload_n hx hb dX8_notes_49 rfl (lv_at hl 0 rfl) ?_
    refine km_get (ci := 8) (C := RX8) (T := TX8) (N := 23) (t := 30) (i := 0) hx hb hts fi_X8_notes_X8 hown hK hw (by decide) (by decide) rfl rfl 13 (by decide) (hts (.fieldLink RX8 25 "WrongWordModel" "now" "[I") ow_X8_notes_25) rfl dX8_notes_50 ?_
    refine lv_iconst (v := 0) hx hb dX8_notes_53 (by decide) ?_
    refine lv_aload_n hx hb dX8_notes_54 rfl (lv_at hl 0 rfl) ?_
    refine km_get (ci := 8) (C := RX8) (T := TX8) (N := 23) (t := 30) (i := 0) hx hb hts fi_X8_notes_X8 hown hK hw (by decide) (by decide) rfl rfl 16 (by decide) (hts (.fieldLink RX8 34 "WrongWordModel" "past" "[I") ow_X8_notes_34) rfl dX8_notes_55 ?_
    refine lv_bipush (v := 65) hx hb dX8_notes_58 (by decide) ?_
    refine lv_aload_n hx hb dX8_notes_60 rfl (lv_at hl 0 rfl) ?_
    refine km_get (ci := 8) (C := RX8) (T := TX8) (N := 23) (t := 30) (i := 0) hx hb hts fi_X8_notes_X8 hown hK hw (by decide) (by decide) rfl rfl 17 (by decide) (hts (.fieldLink RX8 149 "WrongWordModel" "acts" "I") ow_X8_notes_149) rfl dX8_notes_61 ?_
    refine lv_imul hx hb dX8_notes_64 ?_
    have hs11 : g_X8_copies_36_39 v 0 ((65 : Int32) * (v 30 0 17)) ≠ none := fun q => hs (hF.trans (kb_n q _))
    refine km_cSV (As := [.ref (Z.1 36 0), .int 0, .ref (Z.1 39 0), .int ((65 : Int32) * (v 30 0 17))]) (rest := []) (n := 4) ⟨hx, hb, hml, hown, hts⟩ (d_X8_copies_36_39 l E Z v 0 ((65 : Int32) * (v 30 0 17)) hs11) gX8_notes_X8_copies rfl hV_X8_copies ⟨Nat.le_of_ble_eq_true rfl, Nat.le_of_ble_eq_true rfl⟩ hK hw rfl hl.1 rfl (Nat.le_of_ble_eq_true rfl) dX8_notes_65 rfl rfl (fun v13 H locs hp hw => ?_)
    have hF := hF.trans (kb_some hp _)
    refine lv_aload_n hx hb dX8_notes_68 rfl (lv_at hl 0 rfl) ?_
    refine lv_dup hx hb dX8_notes_69 rfl ?_
    refine km_get (ci := 8) (C := RX8) (T := TX8) (N := 23) (t := 30) (i := 0) hx hb hts fi_X8_notes_X8 hown hK hw (by decide) (by decide) rfl rfl 17 (by decide) (hts (.fieldLink RX8 149 "WrongWordModel" "acts" "I") ow_X8_notes_149) rfl dX8_notes_70 ?_
    refine lv_iconst (v := 1) hx hb dX8_notes_73 (by decide) ?_
    refine lv_iadd hx hb dX8_notes_74 ?_
    refine km_put (ci := 8) (C := RX8) (T := TX8) (N := 23) (t := 30) (i := 0) hx hb hts fi_X8_notes_X8 tyX8 tyX8_ok nmX8 hown hK hw (by decide) (by decide) rfl rfl 17 (by decide) (hts (.fieldLink RX8 149 "WrongWordModel" "acts" "I") ow_X8_notes_149) rfl (by decide +kernel) (Nat.le_of_ble_eq_true rfl) rfl dX8_notes_75 (fun H locs hw => ?_)
    obtain ⟨v14, ev14⟩ : ∃ z, z = up3 v13 30 0 17 ((v13 30 0 17) + 1) := ⟨_, rfl⟩
    rw [← ev14] at hw
    have hF := hF.trans (kb_some (congrArg some ev14.symm) _)
    exact hret _ _ _ _ _ hw dX8_notes_78 hF
  · skip
    have hF := hF.trans (if_pos c10)
    refine lv_iconst (v := 0) hx hb dX8_notes_9 (by decide) ?_
    refine lv_istore_n (lv' := [(1, .int 0), (0, .ref (Z.1 30 0))]) hx hb dX8_notes_10 rfl hl (by decide) rfl (fun ls hl => ?_)
    have hl := lv_sub (l' := [(0, .ref (Z.1 30 0)), (1, .int 0)]) hl [1, 0] rfl
    exact loop11 2000 v 0 _ _ _ hF hw hl
abbrev rmX8_forgets : Room := { frames := 0, cells := 0, slots := 0, locals := 0 }
def b_X8_forgets_L3  (rec3 : Mm → Int32 → Option (Mm))  (w3 : Mm) (x1_3 : Int32) : Option (Mm) := if 65 ≤ x1_3 then (Option.bind (some (up3 w3 36 0 (Int32.toNatClampNeg 7) 0)) (fun v2 => some v2)) else (if x1_3 < 0 ∨ 65 ≤ Int32.toNatClampNeg x1_3 then none else (Option.bind (some (up3 w3 36 0 (Int32.toNatClampNeg x1_3) 0)) (fun v4 => rec3 v4 (x1_3 + 1))))
def g_X8_forgets_L3   : Nat → Mm → Int32 → Option (Mm)
  | 0 => fun _ _ => none
  | n + 1 => b_X8_forgets_L3  (g_X8_forgets_L3   n) 
def g_X8_forgets (v : Mm)  : Option (Mm) := g_X8_forgets_L3   2000 v 38
set_option maxHeartbeats 4000000 in
set_option maxRecDepth 100000 in
theorem d_X8_forgets (l : Launch) (E : kq_T) (Z : km_Z) (v : Mm) (hs : g_X8_forgets v ≠ none) : km_V l E Z cntM yX8_forgets wsX8_forgets rmX8_forgets [.ref (Z.1 30 0)] v (fun v1 => g_X8_forgets v = some v1) := by
  refine km_goV (cc := cX8_forgets) (maxL := 2) (by decide) rfl (Nat.le_of_ble_eq_true rfl) rfl rfl rfl ?_
  intro p e s m below meth c A ls Q C hK hw hl hret
  obtain ⟨hx, hb, hml, hown, hts, -, -, -⟩ := C
  have hown : s.vm.findClass RX8 = some m.cls := hown
  have hl : lv_has ls 2 [(0, .ref (Z.1 30 0))] := hl
  have hF := g_X8_forgets.eq_1 v 
  have loop3 : ∀ (n3 : Nat) (w3 : Mm) (x1_3 : Int32) (H : Heap) (locs : List Loc) (ls : Array Slot), g_X8_forgets v = g_X8_forgets_L3   n3 w3 x1_3 → km_w E A s.heap [] Z cntM w3 H locs → lv_has ls 2 [(0, .ref (Z.1 30 0)), (1, .int x1_3)] → W p l e rmX8_forgets s m [.ref (Z.1 30 0)].toArray below meth c H locs 0 0 Q (F0 m 3 ls []) := by
    intro n3
    induction n3 with
    | zero => intro w3 x1_3 H locs ls hF hw hl; exact absurd (show g_X8_forgets v = none from hF) hs
    | succ n3 ih3 =>
      intro w3 x1_3 H locs ls hF hw hl
      have hF := hF.trans (b_X8_forgets_L3.eq_1  (g_X8_forgets_L3   n3)  w3 x1_3)
      refine lv_iload_n hx hb dX8_forgets_3 rfl (lv_at hl 1 rfl) ?_
      refine lv_bipush (v := 65) hx hb dX8_forgets_4 (by decide) ?_
      refine lv_icmp_ge (tgt := 22) hx hb dX8_forgets_6 (by decide) (fun c1 => ?_) (fun c1 => ?_)
      · skip
        have hF := hF.trans (if_pos c1)
        refine lv_aload_n hx hb dX8_forgets_22 rfl (lv_at hl 0 rfl) ?_
        refine km_get (ci := 8) (C := RX8) (T := TX8) (N := 23) (t := 30) (i := 0) hx hb hts fi_X8_forgets_X8 hown hK hw (by decide) (by decide) rfl rfl 13 (by decide) (hts (.fieldLink RX8 25 "WrongWordModel" "now" "[I") ow_X8_forgets_25) rfl dX8_forgets_23 ?_
        refine lv_bipush (v := 7) hx hb dX8_forgets_26 (by decide) ?_
        refine lv_iconst (v := 0) hx hb dX8_forgets_28 (by decide) ?_
        refine km_iast (t := 36) (i := 0) (n := 65) hx hb hK hw (by decide) (by decide) (fun _ => rfl) (by unfold vp_in; decide) dX8_forgets_29 (fun H locs hw => ?_)
        obtain ⟨v2, ev2⟩ : ∃ z, z = up3 w3 36 0 (Int32.toNatClampNeg 7) 0 := ⟨_, rfl⟩
        rw [← ev2] at hw
        have hF := hF.trans (kb_some (congrArg some ev2.symm) _)
        exact hret _ _ _ _ _ hw dX8_forgets_30 hF
      · skip
        have hF := hF.trans (if_neg c1)
        refine lv_aload_n hx hb dX8_forgets_9 rfl (lv_at hl 0 rfl) ?_
        refine km_get (ci := 8) (C := RX8) (T := TX8) (N := 23) (t := 30) (i := 0) hx hb hts fi_X8_forgets_X8 hown hK hw (by decide) (by decide) rfl rfl 13 (by decide) (hts (.fieldLink RX8 25 "WrongWordModel" "now" "[I") ow_X8_forgets_25) rfl dX8_forgets_10 ?_
        refine lv_iload_n hx hb dX8_forgets_13 rfl (lv_at hl 1 rfl) ?_
        refine lv_iconst (v := 0) hx hb dX8_forgets_14 (by decide) ?_
        have hb3 : ¬ (x1_3 < 0 ∨ 65 ≤ Int32.toNatClampNeg x1_3) := fun q => hs (hF.trans (if_pos q))
        have hF := hF.trans (if_neg hb3)
        refine km_iast (t := 36) (i := 0) (n := 65) hx hb hK hw (by decide) (by decide) (fun _ => rfl) hb3 dX8_forgets_15 (fun H locs hw => ?_)
        obtain ⟨v4, ev4⟩ : ∃ z, z = up3 w3 36 0 (Int32.toNatClampNeg x1_3) 0 := ⟨_, rfl⟩
        rw [← ev4] at hw
        have hF := hF.trans (kb_some (congrArg some ev4.symm) _)
        refine lv_iinc (v := x1_3 + 1) (lv' := [(1, .int (x1_3 + 1)), (0, .ref (Z.1 30 0))]) hx hb dX8_forgets_16 hl (k := 1) rfl rfl (by decide) rfl (fun ls hl => ?_)
        refine lv_goto (tgt := 3) hx hb dX8_forgets_19 (by decide) ?_
        have hl := lv_sub (l' := [(0, .ref (Z.1 30 0)), (1, .int (x1_3 + 1))]) hl [1, 0] rfl
        exact ih3 v4 (x1_3 + 1) _ _ _ hF hw hl
  refine lv_bipush (v := 38) hx hb dX8_forgets_0 (by decide) ?_
  refine lv_istore_n (lv' := [(1, .int 38), (0, .ref (Z.1 30 0))]) hx hb dX8_forgets_2 rfl hl (by decide) rfl (fun ls hl => ?_)
  have hl := lv_sub (l' := [(0, .ref (Z.1 30 0)), (1, .int 38)]) hl [1, 0] rfl
  exact loop3 2000 v 38 _ _ _ hF hw hl
abbrev rmX8_nights : Room := { frames := 2, cells := 0, slots := 0, locals := 45 }
def b_X8_nights_L42  (rec42 : Mm → Int32 → Option (Int32 × Mm)) (a1 : Int32) (w42 : Mm) (x2_42 : Int32) : Option (Int32 × Mm) := if a1 ≤ x2_42 then (Option.bind (g_X8_secretOf_36 w42 (w42 36 0 (Int32.toNatClampNeg 5))) (fun r12 => some (r12, w42))) else (Option.bind (g_X8_notes w42) (fun v16 => Option.bind (some (up3 v16 36 0 (Int32.toNatClampNeg 5) ((v16 36 0 (Int32.toNatClampNeg 5)) + 1))) (fun v17 => Option.bind (g_X8_forgets v17) (fun v20 => rec42 v20 (x2_42 + 1)))))
def g_X8_nights_L42  (a1 : Int32) : Nat → Mm → Int32 → Option (Int32 × Mm)
  | 0 => fun _ _ => none
  | n + 1 => b_X8_nights_L42  (g_X8_nights_L42  a1 n) a1
def g_X8_nights (v : Mm) (a1 : Int32) : Option (Int32 × Mm) := Option.bind (g_X8_isGate v) (fun r2 => if r2 = 0 then (some ((-1000002), v)) else (Option.bind (g_X8_in v a1 1 24) (fun r6 => if r6 = 0 then (some ((-1000001), v)) else (if (v 36 0 (Int32.toNatClampNeg 5)) + a1 ≤ 999 then (g_X8_nights_L42  a1 2000 v 0) else (some ((-1000003), v))))))
set_option maxHeartbeats 4000000 in
set_option maxRecDepth 100000 in
theorem d_X8_nights (l : Launch) (E : kq_T) (Z : km_Z) (v : Mm) (a1 : Int32) (hs : g_X8_nights v a1 ≠ none) : km_I l E Z cntM yX8_nights wsX8_nights rmX8_nights [.ref (Z.1 30 0), .int a1] v (fun r v1 => g_X8_nights v a1 = some (r, v1)) := by
  refine km_goI (cc := cX8_nights) (maxL := 3) (by decide) rfl (Nat.le_of_ble_eq_true rfl) rfl rfl rfl ?_
  intro p e s m below meth c A ls Q C hK hw hl hret
  obtain ⟨hx, hb, hml, hown, hts, -, -, -⟩ := C
  have hown : s.vm.findClass RX8 = some m.cls := hown
  have hl : lv_has ls 3 [(0, .ref (Z.1 30 0)), (1, .int a1)] := hl
  have hF := g_X8_nights.eq_1 v a1
  have loop42 : ∀ (n42 : Nat) (w42 : Mm) (x2_42 : Int32) (H : Heap) (locs : List Loc) (ls : Array Slot), g_X8_nights v a1 = g_X8_nights_L42  a1 n42 w42 x2_42 → km_w E A s.heap [] Z cntM w42 H locs → lv_has ls 3 [(0, .ref (Z.1 30 0)), (1, .int a1), (2, .int x2_42)] → W p l e rmX8_nights s m [.ref (Z.1 30 0), .int a1].toArray below meth c H locs 0 0 Q (F0 m 42 ls []) := by
    intro n42
    induction n42 with
    | zero => intro w42 x2_42 H locs ls hF hw hl; exact absurd (show g_X8_nights v a1 = none from hF) hs
    | succ n42 ih42 =>
      intro w42 x2_42 H locs ls hF hw hl
      have hF := hF.trans (b_X8_nights_L42.eq_1  (g_X8_nights_L42  a1 n42) a1 w42 x2_42)
      refine lv_iload_n hx hb dX8_nights_42 rfl (lv_at hl 2 rfl) ?_
      refine lv_iload_n hx hb dX8_nights_43 rfl (lv_at hl 1 rfl) ?_
      refine lv_icmp_ge (tgt := 71) hx hb dX8_nights_44 (by decide) (fun c1 => ?_) (fun c1 => ?_)
      · skip
        have hF := hF.trans (if_pos c1)
        refine lv_aload_n hx hb dX8_nights_71 rfl (lv_at hl 0 rfl) ?_
        refine km_get (ci := 8) (C := RX8) (T := TX8) (N := 23) (t := 30) (i := 0) hx hb hts fi_X8_nights_X8 hown hK hw (by decide) (by decide) rfl rfl 13 (by decide) (hts (.fieldLink RX8 25 "WrongWordModel" "now" "[I") ow_X8_nights_25) rfl dX8_nights_72 ?_
        refine lv_aload_n hx hb dX8_nights_75 rfl (lv_at hl 0 rfl) ?_
        refine km_get (ci := 8) (C := RX8) (T := TX8) (N := 23) (t := 30) (i := 0) hx hb hts fi_X8_nights_X8 hown hK hw (by decide) (by decide) rfl rfl 13 (by decide) (hts (.fieldLink RX8 25 "WrongWordModel" "now" "[I") ow_X8_nights_25) rfl dX8_nights_76 ?_
        refine lv_iconst (v := 5) hx hb dX8_nights_79 (by decide) ?_
        refine km_iald (t := 36) (i := 0) hx hb hK hw (by decide) (by decide) rfl (by unfold vp_in; decide) dX8_nights_80 ?_
        have hs2 : g_X8_secretOf_36 w42 (w42 36 0 (Int32.toNatClampNeg 5)) ≠ none := fun q => hs (hF.trans (kb_n q _))
        refine km_cS (As := [.ref (Z.1 36 0), .int (w42 36 0 (Int32.toNatClampNeg 5))]) (rest := []) (n := 2) ⟨hx, hb, hml, hown, hts⟩ (d_X8_secretOf_36 l E Z w42 (w42 36 0 (Int32.toNatClampNeg 5)) hs2) gX8_nights_X8_secretOf rfl hV_X8_secretOf ⟨Nat.le_of_ble_eq_true rfl, Nat.le_of_ble_eq_true rfl⟩ hK hw rfl hl.1 rfl (Nat.le_of_ble_eq_true rfl) dX8_nights_81 rfl rfl (fun r3 v4 H locs hp hw => ?_)
        obtain ⟨hp, rfl⟩ := hp
        have hF := hF.trans (kb_some hp _)
        exact hret _ _ _ _ _ _ hw dX8_nights_84 hF
      · skip
        have hF := hF.trans (if_neg c1)
        refine lv_aload_n hx hb dX8_nights_47 rfl (lv_at hl 0 rfl) ?_
        have hs5 : g_X8_notes w42 ≠ none := fun q => hs (hF.trans (kb_n q _))
        refine km_cV (As := []) (rest := []) (n := 0) (q := (RX8, TX8, 23)) (ci := 8) (t := 30) (i := 0) ⟨hx, hb, hml, hown, hts⟩ (d_X8_notes l E Z w42  hs5) gX8_nights_X8_notes rfl hV_X8_notes ⟨Nat.le_of_ble_eq_true rfl, Nat.le_of_ble_eq_true rfl⟩ hK hw (by decide) (by decide) rfl rfl rfl hl.1 rfl (Nat.le_of_ble_eq_true rfl) dX8_nights_48 rfl rfl (fun v7 H locs hp hw => ?_)
        have hF := hF.trans (kb_some hp _)
        refine lv_aload_n hx hb dX8_nights_51 rfl (lv_at hl 0 rfl) ?_
        refine km_get (ci := 8) (C := RX8) (T := TX8) (N := 23) (t := 30) (i := 0) hx hb hts fi_X8_nights_X8 hown hK hw (by decide) (by decide) rfl rfl 13 (by decide) (hts (.fieldLink RX8 25 "WrongWordModel" "now" "[I") ow_X8_nights_25) rfl dX8_nights_52 ?_
        refine lv_iconst (v := 5) hx hb dX8_nights_55 (by decide) ?_
        refine lv_dup2_11 hx hb dX8_nights_56 rfl rfl ?_
        refine km_iald (t := 36) (i := 0) hx hb hK hw (by decide) (by decide) rfl (by unfold vp_in; decide) dX8_nights_57 ?_
        refine lv_iconst (v := 1) hx hb dX8_nights_58 (by decide) ?_
        refine lv_iadd hx hb dX8_nights_59 ?_
        refine km_iast (t := 36) (i := 0) (n := 65) hx hb hK hw (by decide) (by decide) (fun _ => rfl) (by unfold vp_in; decide) dX8_nights_60 (fun H locs hw => ?_)
        obtain ⟨v8, ev8⟩ : ∃ z, z = up3 v7 36 0 (Int32.toNatClampNeg 5) ((v7 36 0 (Int32.toNatClampNeg 5)) + 1) := ⟨_, rfl⟩
        rw [← ev8] at hw
        have hF := hF.trans (kb_some (congrArg some ev8.symm) _)
        refine lv_aload_n hx hb dX8_nights_61 rfl (lv_at hl 0 rfl) ?_
        have hs9 : g_X8_forgets v8 ≠ none := fun q => hs (hF.trans (kb_n q _))
        refine km_cV (As := []) (rest := []) (n := 0) (q := (RX8, TX8, 23)) (ci := 8) (t := 30) (i := 0) ⟨hx, hb, hml, hown, hts⟩ (d_X8_forgets l E Z v8  hs9) gX8_nights_X8_forgets rfl hV_X8_forgets ⟨Nat.le_of_ble_eq_true rfl, Nat.le_of_ble_eq_true rfl⟩ hK hw (by decide) (by decide) rfl rfl rfl hl.1 rfl (Nat.le_of_ble_eq_true rfl) dX8_nights_62 rfl rfl (fun v11 H locs hp hw => ?_)
        have hF := hF.trans (kb_some hp _)
        refine lv_iinc (v := x2_42 + 1) (lv' := [(2, .int (x2_42 + 1)), (0, .ref (Z.1 30 0)), (1, .int a1)]) hx hb dX8_nights_65 hl (k := 2) rfl rfl (by decide) rfl (fun ls hl => ?_)
        refine lv_goto (tgt := 42) hx hb dX8_nights_68 (by decide) ?_
        have hl := lv_sub (l' := [(0, .ref (Z.1 30 0)), (1, .int a1), (2, .int (x2_42 + 1))]) hl [1, 2, 0] rfl
        exact ih42 v11 (x2_42 + 1) _ _ _ hF hw hl
  refine lv_aload_n hx hb dX8_nights_0 rfl (lv_at hl 0 rfl) ?_
  have hs12 : g_X8_isGate v ≠ none := fun q => hs (hF.trans (kb_n q _))
  refine km_cI (As := []) (rest := []) (n := 0) (q := (RX8, TX8, 23)) (ci := 8) (t := 30) (i := 0) ⟨hx, hb, hml, hown, hts⟩ (d_X8_isGate l E Z v  hs12) gX8_nights_X8_isGate rfl hV_X8_isGate ⟨Nat.le_of_ble_eq_true rfl, Nat.le_of_ble_eq_true rfl⟩ hK hw (by decide) (by decide) rfl rfl rfl hl.1 rfl (Nat.le_of_ble_eq_true rfl) dX8_nights_1 rfl rfl (fun r13 v14 H locs hp hw => ?_)
  obtain ⟨hp, hzr13⟩ := hp
  obtain ⟨hp, rfl⟩ := hp
  have hF := hF.trans (kb_some hp _)
  refine lv_if_ne (tgt := 10) hx hb dX8_nights_4 (by decide) (fun c15 => ?_) (fun c15 => ?_)
  · skip
    have hF := hF.trans (if_neg c15)
    refine lv_iload_n hx hb dX8_nights_10 rfl (lv_at hl 1 rfl) ?_
    refine lv_iconst (v := 1) hx hb dX8_nights_11 (by decide) ?_
    refine lv_bipush (v := 24) hx hb dX8_nights_12 (by decide) ?_
    have hs16 : g_X8_in v a1 1 24 ≠ none := fun q => hs (hF.trans (kb_n q _))
    refine km_cS (As := [.int a1, .int 1, .int 24]) (rest := []) (n := 3) ⟨hx, hb, hml, hown, hts⟩ (d_X8_in l E Z v a1 1 24 hs16) gX8_nights_X8_in rfl hV_X8_in ⟨Nat.le_of_ble_eq_true rfl, Nat.le_of_ble_eq_true rfl⟩ hK hw rfl hl.1 rfl (Nat.le_of_ble_eq_true rfl) dX8_nights_14 rfl rfl (fun r17 v18 H locs hp hw => ?_)
    obtain ⟨hp, hzr17⟩ := hp
    obtain ⟨hp, rfl⟩ := hp
    have hF := hF.trans (kb_some hp _)
    refine lv_if_ne (tgt := 23) hx hb dX8_nights_17 (by decide) (fun c19 => ?_) (fun c19 => ?_)
    · skip
      have hF := hF.trans (if_neg c19)
      refine lv_aload_n hx hb dX8_nights_23 rfl (lv_at hl 0 rfl) ?_
      refine km_get (ci := 8) (C := RX8) (T := TX8) (N := 23) (t := 30) (i := 0) hx hb hts fi_X8_nights_X8 hown hK hw (by decide) (by decide) rfl rfl 13 (by decide) (hts (.fieldLink RX8 25 "WrongWordModel" "now" "[I") ow_X8_nights_25) rfl dX8_nights_24 ?_
      refine lv_iconst (v := 5) hx hb dX8_nights_27 (by decide) ?_
      refine km_iald (t := 36) (i := 0) hx hb hK hw (by decide) (by decide) rfl (by unfold vp_in; decide) dX8_nights_28 ?_
      refine lv_iload_n hx hb dX8_nights_29 rfl (lv_at hl 1 rfl) ?_
      refine lv_iadd hx hb dX8_nights_30 ?_
      refine lv_sipush (v := 999) hx hb dX8_nights_31 (by decide) ?_
      refine lv_icmp_le (tgt := 40) hx hb dX8_nights_34 (by decide) (fun c20 => ?_) (fun c20 => ?_)
      · skip
        have hF := hF.trans (if_pos c20)
        refine lv_iconst (v := 0) hx hb dX8_nights_40 (by decide) ?_
        refine lv_istore_n (lv' := [(2, .int 0), (0, .ref (Z.1 30 0)), (1, .int a1)]) hx hb dX8_nights_41 rfl hl (by decide) rfl (fun ls hl => ?_)
        have hl := lv_sub (l' := [(0, .ref (Z.1 30 0)), (1, .int a1), (2, .int 0)]) hl [1, 2, 0] rfl
        exact loop42 2000 v 0 _ _ _ hF hw hl
      · skip
        have hF := hF.trans (if_neg c20)
        refine lv_ldc (v := (-1000003)) hx hb hown (hts (.constant RX8 85 (-1000003)) ow_X8_nights_85) dX8_nights_37 ?_
        exact hret _ _ _ _ _ _ hw dX8_nights_39 hF
    · skip
      have hF := hF.trans (if_pos c19)
      refine lv_ldc (v := (-1000001)) hx hb hown (hts (.constant RX8 64 (-1000001)) ow_X8_nights_64) dX8_nights_20 ?_
      exact hret _ _ _ _ _ _ hw dX8_nights_22 hF
  · skip
    have hF := hF.trans (if_pos c15)
    refine lv_ldc (v := (-1000002)) hx hb hown (hts (.constant RX8 183 (-1000002)) ow_X8_nights_183) dX8_nights_7 ?_
    exact hret _ _ _ _ _ _ hw dX8_nights_9 hF
abbrev rmX8_say : Room := { frames := 4, cells := 0, slots := 0, locals := 98 }
def g_X8_say (v : Mm) (a1 : Int32) (a2 : Int32) : Option (Int32 × Mm) := Option.bind (g_X8_isWord v a1) (fun r2 => if r2 = 0 then (some ((-1000001), v)) else (Option.bind (g_X8_isHour v a2) (fun r6 => if r6 = 0 then (some ((-1000001), v)) else (if v 36 0 (Int32.toNatClampNeg 7) = 9 then (some ((-1000003), v)) else (Option.bind (g_X8_notes v) (fun v12 => Option.bind (g_X8_guardOn v12 a2 (v12 36 0 (Int32.toNatClampNeg 5))) (fun r14 => Option.bind (g_X8_isTakenNow v12 a1 a2 0) (fun r17 => if r17 = 0 then (Option.bind (some ((38 : Int32) + ((3 : Int32) * (v12 36 0 (Int32.toNatClampNeg 7))))) (fun x20 => if x20 < 0 ∨ 65 ≤ Int32.toNatClampNeg x20 then none else (Option.bind (some (up3 v12 36 0 (Int32.toNatClampNeg x20) a1)) (fun v22 => Option.bind (g_X8_has v22 (v22 36 0 (Int32.toNatClampNeg 6)) r14) (fun r24 => if r24 = 0 then (if x20 + 1 < 0 ∨ 65 ≤ Int32.toNatClampNeg (x20 + 1) then none else (Option.bind (some (up3 v22 36 0 (Int32.toNatClampNeg (x20 + 1)) 0)) (fun v28 => if x20 + 2 < 0 ∨ 65 ≤ Int32.toNatClampNeg (x20 + 2) then none else (Option.bind (some (up3 v28 36 0 (Int32.toNatClampNeg (x20 + 2)) 0)) (fun v30 => Option.bind (some (up3 v30 36 0 (Int32.toNatClampNeg 7) ((v30 36 0 (Int32.toNatClampNeg 7)) + 1))) (fun v31 => if ((26 : Int32) + ((3 : Int32) * r14)) + 2 < 0 ∨ 65 ≤ Int32.toNatClampNeg (((26 : Int32) + ((3 : Int32) * r14)) + 2) then none else (if ((26 : Int32) + ((3 : Int32) * r14)) + 2 < 0 ∨ 65 ≤ Int32.toNatClampNeg (((26 : Int32) + ((3 : Int32) * r14)) + 2) then none else (Option.bind (some (up3 v31 36 0 (Int32.toNatClampNeg (((26 : Int32) + ((3 : Int32) * r14)) + 2)) ((v31 36 0 (Int32.toNatClampNeg (((26 : Int32) + ((3 : Int32) * r14)) + 2))) + 0))) (fun v34 => some (0, v34)))))))))) else (if x20 + 1 < 0 ∨ 65 ≤ Int32.toNatClampNeg (x20 + 1) then none else (Option.bind (some (up3 v22 36 0 (Int32.toNatClampNeg (x20 + 1)) (r14 + 1))) (fun v36 => if x20 + 2 < 0 ∨ 65 ≤ Int32.toNatClampNeg (x20 + 2) then none else (Option.bind (some (up3 v36 36 0 (Int32.toNatClampNeg (x20 + 2)) 0)) (fun v38 => Option.bind (some (up3 v38 36 0 (Int32.toNatClampNeg 7) ((v38 36 0 (Int32.toNatClampNeg 7)) + 1))) (fun v39 => if ((26 : Int32) + ((3 : Int32) * r14)) + 2 < 0 ∨ 65 ≤ Int32.toNatClampNeg (((26 : Int32) + ((3 : Int32) * r14)) + 2) then none else (if ((26 : Int32) + ((3 : Int32) * r14)) + 2 < 0 ∨ 65 ≤ Int32.toNatClampNeg (((26 : Int32) + ((3 : Int32) * r14)) + 2) then none else (Option.bind (some (up3 v39 36 0 (Int32.toNatClampNeg (((26 : Int32) + ((3 : Int32) * r14)) + 2)) ((v39 36 0 (Int32.toNatClampNeg (((26 : Int32) + ((3 : Int32) * r14)) + 2))) + 0))) (fun v42 => some (0, v42))))))))))))))) else (Option.bind (some ((38 : Int32) + ((3 : Int32) * (v12 36 0 (Int32.toNatClampNeg 7))))) (fun x43 => if x43 < 0 ∨ 65 ≤ Int32.toNatClampNeg x43 then none else (Option.bind (some (up3 v12 36 0 (Int32.toNatClampNeg x43) a1)) (fun v45 => Option.bind (g_X8_has v45 (v45 36 0 (Int32.toNatClampNeg 6)) r14) (fun r47 => if r47 = 0 then (if x43 + 1 < 0 ∨ 65 ≤ Int32.toNatClampNeg (x43 + 1) then none else (Option.bind (some (up3 v45 36 0 (Int32.toNatClampNeg (x43 + 1)) 0)) (fun v51 => if x43 + 2 < 0 ∨ 65 ≤ Int32.toNatClampNeg (x43 + 2) then none else (Option.bind (some (up3 v51 36 0 (Int32.toNatClampNeg (x43 + 2)) 1)) (fun v53 => Option.bind (some (up3 v53 36 0 (Int32.toNatClampNeg 7) ((v53 36 0 (Int32.toNatClampNeg 7)) + 1))) (fun v54 => if ((26 : Int32) + ((3 : Int32) * r14)) + 2 < 0 ∨ 65 ≤ Int32.toNatClampNeg (((26 : Int32) + ((3 : Int32) * r14)) + 2) then none else (if ((26 : Int32) + ((3 : Int32) * r14)) + 2 < 0 ∨ 65 ≤ Int32.toNatClampNeg (((26 : Int32) + ((3 : Int32) * r14)) + 2) then none else (Option.bind (some (up3 v54 36 0 (Int32.toNatClampNeg (((26 : Int32) + ((3 : Int32) * r14)) + 2)) ((v54 36 0 (Int32.toNatClampNeg (((26 : Int32) + ((3 : Int32) * r14)) + 2))) + 1))) (fun v57 => some (1, v57)))))))))) else (if x43 + 1 < 0 ∨ 65 ≤ Int32.toNatClampNeg (x43 + 1) then none else (Option.bind (some (up3 v45 36 0 (Int32.toNatClampNeg (x43 + 1)) (r14 + 1))) (fun v59 => if x43 + 2 < 0 ∨ 65 ≤ Int32.toNatClampNeg (x43 + 2) then none else (Option.bind (some (up3 v59 36 0 (Int32.toNatClampNeg (x43 + 2)) 1)) (fun v61 => Option.bind (some (up3 v61 36 0 (Int32.toNatClampNeg 7) ((v61 36 0 (Int32.toNatClampNeg 7)) + 1))) (fun v62 => if ((26 : Int32) + ((3 : Int32) * r14)) + 2 < 0 ∨ 65 ≤ Int32.toNatClampNeg (((26 : Int32) + ((3 : Int32) * r14)) + 2) then none else (if ((26 : Int32) + ((3 : Int32) * r14)) + 2 < 0 ∨ 65 ≤ Int32.toNatClampNeg (((26 : Int32) + ((3 : Int32) * r14)) + 2) then none else (Option.bind (some (up3 v62 36 0 (Int32.toNatClampNeg (((26 : Int32) + ((3 : Int32) * r14)) + 2)) ((v62 36 0 (Int32.toNatClampNeg (((26 : Int32) + ((3 : Int32) * r14)) + 2))) + 1))) (fun v65 => some (1, v65)))))))))))))))))))))))
set_option maxHeartbeats 4000000 in
set_option maxRecDepth 100000 in
theorem d_X8_say (l : Launch) (E : kq_T) (Z : km_Z) (v : Mm) (a1 : Int32) (a2 : Int32) (hs : g_X8_say v a1 a2 ≠ none) : km_I l E Z cntM yX8_say wsX8_say rmX8_say [.ref (Z.1 30 0), .int a1, .int a2] v (fun r v1 => g_X8_say v a1 a2 = some (r, v1)) := by
  refine km_goI (cc := cX8_say) (maxL := 6) (by decide) rfl (Nat.le_of_ble_eq_true rfl) rfl rfl rfl ?_
  intro p e s m below meth c A ls Q C hK hw hl hret
  obtain ⟨hx, hb, hml, hown, hts, -, -, -⟩ := C
  have hown : s.vm.findClass RX8 = some m.cls := hown
  have hl : lv_has ls 6 [(0, .ref (Z.1 30 0)), (1, .int a1), (2, .int a2)] := hl
  have hF := g_X8_say.eq_1 v a1 a2
  refine lv_aload_n hx hb dX8_say_0 rfl (lv_at hl 0 rfl) ?_
  refine lv_iload_n hx hb dX8_say_1 rfl (lv_at hl 1 rfl) ?_
  have hs1 : g_X8_isWord v a1 ≠ none := fun q => hs (hF.trans (kb_n q _))
  refine km_cI (As := [.int a1]) (rest := []) (n := 1) (q := (RX8, TX8, 23)) (ci := 8) (t := 30) (i := 0) ⟨hx, hb, hml, hown, hts⟩ (d_X8_isWord l E Z v a1 hs1) gX8_say_X8_isWord rfl hV_X8_isWord ⟨Nat.le_of_ble_eq_true rfl, Nat.le_of_ble_eq_true rfl⟩ hK hw (by decide) (by decide) rfl rfl rfl hl.1 rfl (Nat.le_of_ble_eq_true rfl) dX8_say_2 rfl rfl (fun r2 v3 H locs hp hw => ?_)
  obtain ⟨hp, hzr2⟩ := hp
  obtain ⟨hp, rfl⟩ := hp
  have hF := hF.trans (kb_some hp _)
  refine lv_if_eq (tgt := 15) hx hb dX8_say_5 (by decide) (fun c4 => ?_) (fun c4 => ?_)
  · skip
    have hF := hF.trans (if_pos c4)
    refine lv_ldc (v := (-1000001)) hx hb hown (hts (.constant RX8 64 (-1000001)) ow_X8_say_64) dX8_say_15 ?_
    exact hret _ _ _ _ _ _ hw dX8_say_17 hF
  · skip
    have hF := hF.trans (if_neg c4)
    refine lv_iload_n hx hb dX8_say_8 rfl (lv_at hl 2 rfl) ?_
    have hs5 : g_X8_isHour v a2 ≠ none := fun q => hs (hF.trans (kb_n q _))
    refine km_cS (As := [.int a2]) (rest := []) (n := 1) ⟨hx, hb, hml, hown, hts⟩ (d_X8_isHour l E Z v a2 hs5) gX8_say_X8_isHour rfl hV_X8_isHour ⟨Nat.le_of_ble_eq_true rfl, Nat.le_of_ble_eq_true rfl⟩ hK hw rfl hl.1 rfl (Nat.le_of_ble_eq_true rfl) dX8_say_9 rfl rfl (fun r6 v7 H locs hp hw => ?_)
    obtain ⟨hp, hzr6⟩ := hp
    obtain ⟨hp, rfl⟩ := hp
    have hF := hF.trans (kb_some hp _)
    refine lv_if_ne (tgt := 18) hx hb dX8_say_12 (by decide) (fun c8 => ?_) (fun c8 => ?_)
    · skip
      have hF := hF.trans (if_neg c8)
      refine lv_aload_n hx hb dX8_say_18 rfl (lv_at hl 0 rfl) ?_
      refine km_get (ci := 8) (C := RX8) (T := TX8) (N := 23) (t := 30) (i := 0) hx hb hts fi_X8_say_X8 hown hK hw (by decide) (by decide) rfl rfl 13 (by decide) (hts (.fieldLink RX8 25 "WrongWordModel" "now" "[I") ow_X8_say_25) rfl dX8_say_19 ?_
      refine lv_bipush (v := 7) hx hb dX8_say_22 (by decide) ?_
      refine km_iald (t := 36) (i := 0) hx hb hK hw (by decide) (by decide) rfl (by unfold vp_in; decide) dX8_say_24 ?_
      refine lv_bipush (v := 9) hx hb dX8_say_25 (by decide) ?_
      refine lv_icmp_ne (tgt := 33) hx hb dX8_say_27 (by decide) (fun c9 => ?_) (fun c9 => ?_)
      · skip
        have hF := hF.trans (if_neg c9)
        refine lv_aload_n hx hb dX8_say_33 rfl (lv_at hl 0 rfl) ?_
        have hs10 : g_X8_notes v ≠ none := fun q => hs (hF.trans (kb_n q _))
        refine km_cV (As := []) (rest := []) (n := 0) (q := (RX8, TX8, 23)) (ci := 8) (t := 30) (i := 0) ⟨hx, hb, hml, hown, hts⟩ (d_X8_notes l E Z v  hs10) gX8_say_X8_notes rfl hV_X8_notes ⟨Nat.le_of_ble_eq_true rfl, Nat.le_of_ble_eq_true rfl⟩ hK hw (by decide) (by decide) rfl rfl rfl hl.1 rfl (Nat.le_of_ble_eq_true rfl) dX8_say_34 rfl rfl (fun v12 H locs hp hw => ?_)
        have hF := hF.trans (kb_some hp _)
        refine lv_aload_n hx hb dX8_say_37 rfl (lv_at hl 0 rfl) ?_
        refine lv_iload_n hx hb dX8_say_38 rfl (lv_at hl 2 rfl) ?_
        refine lv_aload_n hx hb dX8_say_39 rfl (lv_at hl 0 rfl) ?_
        refine km_get (ci := 8) (C := RX8) (T := TX8) (N := 23) (t := 30) (i := 0) hx hb hts fi_X8_say_X8 hown hK hw (by decide) (by decide) rfl rfl 13 (by decide) (hts (.fieldLink RX8 25 "WrongWordModel" "now" "[I") ow_X8_say_25) rfl dX8_say_40 ?_
        refine lv_iconst (v := 5) hx hb dX8_say_43 (by decide) ?_
        refine km_iald (t := 36) (i := 0) hx hb hK hw (by decide) (by decide) rfl (by unfold vp_in; decide) dX8_say_44 ?_
        have hs13 : g_X8_guardOn v12 a2 (v12 36 0 (Int32.toNatClampNeg 5)) ≠ none := fun q => hs (hF.trans (kb_n q _))
        refine km_cI (As := [.int a2, .int (v12 36 0 (Int32.toNatClampNeg 5))]) (rest := []) (n := 2) (q := (RX8, TX8, 23)) (ci := 8) (t := 30) (i := 0) ⟨hx, hb, hml, hown, hts⟩ (d_X8_guardOn l E Z v12 a2 (v12 36 0 (Int32.toNatClampNeg 5)) hs13) gX8_say_X8_guardOn rfl hV_X8_guardOn ⟨Nat.le_of_ble_eq_true rfl, Nat.le_of_ble_eq_true rfl⟩ hK hw (by decide) (by decide) rfl rfl rfl hl.1 rfl (Nat.le_of_ble_eq_true rfl) dX8_say_45 rfl rfl (fun r14 v15 H locs hp hw => ?_)
        obtain ⟨hp, rfl⟩ := hp
        have hF := hF.trans (kb_some hp _)
        refine lv_istore_n (lv' := [(3, .int r14), (0, .ref (Z.1 30 0)), (1, .int a1), (2, .int a2)]) hx hb dX8_say_48 rfl hl (by decide) rfl (fun ls hl => ?_)
        refine lv_aload_n hx hb dX8_say_49 rfl (lv_at hl 1 rfl) ?_
        refine lv_iload_n hx hb dX8_say_50 rfl (lv_at hl 2 rfl) ?_
        refine lv_iload_n hx hb dX8_say_51 rfl (lv_at hl 3 rfl) ?_
        refine lv_iconst (v := 0) hx hb dX8_say_52 (by decide) ?_
        have hs16 : g_X8_isTakenNow v12 a1 a2 0 ≠ none := fun q => hs (hF.trans (kb_n q _))
        refine km_cI (As := [.int a1, .int a2, .int 0]) (rest := []) (n := 3) (q := (RX8, TX8, 23)) (ci := 8) (t := 30) (i := 0) ⟨hx, hb, hml, hown, hts⟩ (d_X8_isTakenNow l E Z v12 a1 a2 0 hs16) gX8_say_X8_isTakenNow rfl hV_X8_isTakenNow ⟨Nat.le_of_ble_eq_true rfl, Nat.le_of_ble_eq_true rfl⟩ hK hw (by decide) (by decide) rfl rfl rfl hl.1 rfl (Nat.le_of_ble_eq_true rfl) dX8_say_53 rfl rfl (fun r17 v18 H locs hp hw => ?_)
        obtain ⟨hp, hzr17⟩ := hp
        obtain ⟨hp, rfl⟩ := hp
        have hF := hF.trans (kb_some hp _)
        refine lv_if_eq (tgt := 63) hx hb dX8_say_56 (by decide) (fun c19 => ?_) (fun c19 => ?_)
        · skip
          have hF := hF.trans (if_pos c19)
          refine lv_iconst (v := 0) hx hb dX8_say_63 (by decide) ?_
          refine lv_istore (lv' := [(4, .int 0), (3, .int r14), (0, .ref (Z.1 30 0)), (1, .int a1), (2, .int a2)]) hx hb dX8_say_64 hl (by decide) rfl (fun ls hl => ?_)
          refine lv_bipush (v := 38) hx hb dX8_say_66 (by decide) ?_
          refine lv_iconst (v := 3) hx hb dX8_say_68 (by decide) ?_
          refine lv_aload_n hx hb dX8_say_69 rfl (lv_at hl 2 rfl) ?_
          refine km_get (ci := 8) (C := RX8) (T := TX8) (N := 23) (t := 30) (i := 0) hx hb hts fi_X8_say_X8 hown hK hw (by decide) (by decide) rfl rfl 13 (by decide) (hts (.fieldLink RX8 25 "WrongWordModel" "now" "[I") ow_X8_say_25) rfl dX8_say_70 ?_
          refine lv_bipush (v := 7) hx hb dX8_say_73 (by decide) ?_
          refine km_iald (t := 36) (i := 0) hx hb hK hw (by decide) (by decide) rfl (by unfold vp_in; decide) dX8_say_75 ?_
          refine lv_imul hx hb dX8_say_76 ?_
          refine lv_iadd hx hb dX8_say_77 ?_
          refine lv_topi (fun x20 ex20 => ?_)
          have hF := hF.trans (kb_some (congrArg some ex20.symm) _)
          refine lv_istore (lv' := [(5, .int x20), (4, .int 0), (3, .int r14), (0, .ref (Z.1 30 0)), (1, .int a1), (2, .int a2)]) hx hb dX8_say_78 hl (by decide) rfl (fun ls hl => ?_)
          refine lv_aload_n hx hb dX8_say_80 rfl (lv_at hl 3 rfl) ?_
          refine km_get (ci := 8) (C := RX8) (T := TX8) (N := 23) (t := 30) (i := 0) hx hb hts fi_X8_say_X8 hown hK hw (by decide) (by decide) rfl rfl 13 (by decide) (hts (.fieldLink RX8 25 "WrongWordModel" "now" "[I") ow_X8_say_25) rfl dX8_say_81 ?_
          refine lv_iload hx hb dX8_say_84 (lv_at hl 0 rfl) ?_
          refine lv_iload_n hx hb dX8_say_86 rfl (lv_at hl 4 rfl) ?_
          have hb21 : ¬ (x20 < 0 ∨ 65 ≤ Int32.toNatClampNeg x20) := fun q => hs (hF.trans (if_pos q))
          have hF := hF.trans (if_neg hb21)
          refine km_iast (t := 36) (i := 0) (n := 65) hx hb hK hw (by decide) (by decide) (fun _ => rfl) hb21 dX8_say_87 (fun H locs hw => ?_)
          obtain ⟨v22, ev22⟩ : ∃ z, z = up3 v12 36 0 (Int32.toNatClampNeg x20) a1 := ⟨_, rfl⟩
          rw [← ev22] at hw
          have hF := hF.trans (kb_some (congrArg some ev22.symm) _)
          refine lv_aload_n hx hb dX8_say_88 rfl (lv_at hl 3 rfl) ?_
          refine km_get (ci := 8) (C := RX8) (T := TX8) (N := 23) (t := 30) (i := 0) hx hb hts fi_X8_say_X8 hown hK hw (by decide) (by decide) rfl rfl 13 (by decide) (hts (.fieldLink RX8 25 "WrongWordModel" "now" "[I") ow_X8_say_25) rfl dX8_say_89 ?_
          refine lv_iload hx hb dX8_say_92 (lv_at hl 0 rfl) ?_
          refine lv_iconst (v := 1) hx hb dX8_say_94 (by decide) ?_
          refine lv_iadd hx hb dX8_say_95 ?_
          refine lv_aload_n hx hb dX8_say_96 rfl (lv_at hl 3 rfl) ?_
          refine km_get (ci := 8) (C := RX8) (T := TX8) (N := 23) (t := 30) (i := 0) hx hb hts fi_X8_say_X8 hown hK hw (by decide) (by decide) rfl rfl 13 (by decide) (hts (.fieldLink RX8 25 "WrongWordModel" "now" "[I") ow_X8_say_25) rfl dX8_say_97 ?_
          refine lv_bipush (v := 6) hx hb dX8_say_100 (by decide) ?_
          refine km_iald (t := 36) (i := 0) hx hb hK hw (by decide) (by decide) rfl (by unfold vp_in; decide) dX8_say_102 ?_
          refine lv_iload_n hx hb dX8_say_103 rfl (lv_at hl 2 rfl) ?_
          have hs23 : g_X8_has v22 (v22 36 0 (Int32.toNatClampNeg 6)) r14 ≠ none := fun q => hs (hF.trans (kb_n q _))
          refine km_cS (As := [.int (v22 36 0 (Int32.toNatClampNeg 6)), .int r14]) (rest := [.int (x20 + 1), .ref (Z.1 36 0)]) (n := 2) ⟨hx, hb, hml, hown, hts⟩ (d_X8_has l E Z v22 (v22 36 0 (Int32.toNatClampNeg 6)) r14 hs23) gX8_say_X8_has rfl hV_X8_has ⟨Nat.le_of_ble_eq_true rfl, Nat.le_of_ble_eq_true rfl⟩ hK hw rfl hl.1 rfl (Nat.le_of_ble_eq_true rfl) dX8_say_104 rfl rfl (fun r24 v25 H locs hp hw => ?_)
          obtain ⟨hp, hzr24⟩ := hp
          obtain ⟨hp, rfl⟩ := hp
          have hF := hF.trans (kb_some hp _)
          refine lv_if_eq (tgt := 116) hx hb dX8_say_107 (by decide) (fun c26 => ?_) (fun c26 => ?_)
          · skip
            have hF := hF.trans (if_pos c26)
            refine lv_iconst (v := 0) hx hb dX8_say_116 (by decide) ?_
            have hb27 : ¬ (x20 + 1 < 0 ∨ 65 ≤ Int32.toNatClampNeg (x20 + 1)) := fun q => hs (hF.trans (if_pos q))
            have hF := hF.trans (if_neg hb27)
            refine km_iast (t := 36) (i := 0) (n := 65) hx hb hK hw (by decide) (by decide) (fun _ => rfl) hb27 dX8_say_117 (fun H locs hw => ?_)
            obtain ⟨v28, ev28⟩ : ∃ z, z = up3 v22 36 0 (Int32.toNatClampNeg (x20 + 1)) 0 := ⟨_, rfl⟩
            rw [← ev28] at hw
            have hF := hF.trans (kb_some (congrArg some ev28.symm) _)
            refine lv_aload_n hx hb dX8_say_118 rfl (lv_at hl 3 rfl) ?_
            refine km_get (ci := 8) (C := RX8) (T := TX8) (N := 23) (t := 30) (i := 0) hx hb hts fi_X8_say_X8 hown hK hw (by decide) (by decide) rfl rfl 13 (by decide) (hts (.fieldLink RX8 25 "WrongWordModel" "now" "[I") ow_X8_say_25) rfl dX8_say_119 ?_
            refine lv_iload hx hb dX8_say_122 (lv_at hl 0 rfl) ?_
            refine lv_iconst (v := 2) hx hb dX8_say_124 (by decide) ?_
            refine lv_iadd hx hb dX8_say_125 ?_
            refine lv_iload hx hb dX8_say_126 (lv_at hl 1 rfl) ?_
            have hb29 : ¬ (x20 + 2 < 0 ∨ 65 ≤ Int32.toNatClampNeg (x20 + 2)) := fun q => hs (hF.trans (if_pos q))
            have hF := hF.trans (if_neg hb29)
            refine km_iast (t := 36) (i := 0) (n := 65) hx hb hK hw (by decide) (by decide) (fun _ => rfl) hb29 dX8_say_128 (fun H locs hw => ?_)
            obtain ⟨v30, ev30⟩ : ∃ z, z = up3 v28 36 0 (Int32.toNatClampNeg (x20 + 2)) 0 := ⟨_, rfl⟩
            rw [← ev30] at hw
            have hF := hF.trans (kb_some (congrArg some ev30.symm) _)
            refine lv_aload_n hx hb dX8_say_129 rfl (lv_at hl 3 rfl) ?_
            refine km_get (ci := 8) (C := RX8) (T := TX8) (N := 23) (t := 30) (i := 0) hx hb hts fi_X8_say_X8 hown hK hw (by decide) (by decide) rfl rfl 13 (by decide) (hts (.fieldLink RX8 25 "WrongWordModel" "now" "[I") ow_X8_say_25) rfl dX8_say_130 ?_
            refine lv_bipush (v := 7) hx hb dX8_say_133 (by decide) ?_
            refine lv_dup2_11 hx hb dX8_say_135 rfl rfl ?_
            refine km_iald (t := 36) (i := 0) hx hb hK hw (by decide) (by decide) rfl (by unfold vp_in; decide) dX8_say_136 ?_
            refine lv_iconst (v := 1) hx hb dX8_say_137 (by decide) ?_
            refine lv_iadd hx hb dX8_say_138 ?_
            refine km_iast (t := 36) (i := 0) (n := 65) hx hb hK hw (by decide) (by decide) (fun _ => rfl) (by unfold vp_in; decide) dX8_say_139 (fun H locs hw => ?_)
            obtain ⟨v31, ev31⟩ : ∃ z, z = up3 v30 36 0 (Int32.toNatClampNeg 7) ((v30 36 0 (Int32.toNatClampNeg 7)) + 1) := ⟨_, rfl⟩
            rw [← ev31] at hw
            have hF := hF.trans (kb_some (congrArg some ev31.symm) _)
            refine lv_aload_n hx hb dX8_say_140 rfl (lv_at hl 3 rfl) ?_
            refine km_get (ci := 8) (C := RX8) (T := TX8) (N := 23) (t := 30) (i := 0) hx hb hts fi_X8_say_X8 hown hK hw (by decide) (by decide) rfl rfl 13 (by decide) (hts (.fieldLink RX8 25 "WrongWordModel" "now" "[I") ow_X8_say_25) rfl dX8_say_141 ?_
            refine lv_bipush (v := 26) hx hb dX8_say_144 (by decide) ?_
            refine lv_iconst (v := 3) hx hb dX8_say_146 (by decide) ?_
            refine lv_iload_n hx hb dX8_say_147 rfl (lv_at hl 2 rfl) ?_
            refine lv_imul hx hb dX8_say_148 ?_
            refine lv_iadd hx hb dX8_say_149 ?_
            refine lv_iconst (v := 2) hx hb dX8_say_150 (by decide) ?_
            refine lv_iadd hx hb dX8_say_151 ?_
            refine lv_dup2_11 hx hb dX8_say_152 rfl rfl ?_
            have hb32 : ¬ (((26 : Int32) + ((3 : Int32) * r14)) + 2 < 0 ∨ 65 ≤ Int32.toNatClampNeg (((26 : Int32) + ((3 : Int32) * r14)) + 2)) := fun q => hs (hF.trans (if_pos q))
            have hF := hF.trans (if_neg hb32)
            refine km_iald (t := 36) (i := 0) hx hb hK hw (by decide) (by decide) rfl hb32 dX8_say_153 ?_
            refine lv_iload hx hb dX8_say_154 (lv_at hl 1 rfl) ?_
            refine lv_iadd hx hb dX8_say_156 ?_
            have hb33 : ¬ (((26 : Int32) + ((3 : Int32) * r14)) + 2 < 0 ∨ 65 ≤ Int32.toNatClampNeg (((26 : Int32) + ((3 : Int32) * r14)) + 2)) := fun q => hs (hF.trans (if_pos q))
            have hF := hF.trans (if_neg hb33)
            refine km_iast (t := 36) (i := 0) (n := 65) hx hb hK hw (by decide) (by decide) (fun _ => rfl) hb33 dX8_say_157 (fun H locs hw => ?_)
            obtain ⟨v34, ev34⟩ : ∃ z, z = up3 v31 36 0 (Int32.toNatClampNeg (((26 : Int32) + ((3 : Int32) * r14)) + 2)) ((v31 36 0 (Int32.toNatClampNeg (((26 : Int32) + ((3 : Int32) * r14)) + 2))) + 0) := ⟨_, rfl⟩
            rw [← ev34] at hw
            have hF := hF.trans (kb_some (congrArg some ev34.symm) _)
            refine lv_iload hx hb dX8_say_158 (lv_at hl 1 rfl) ?_
            exact hret _ _ _ _ _ _ hw dX8_say_160 hF
          · skip
            have hF := hF.trans (if_neg c26)
            refine lv_iload_n hx hb dX8_say_110 rfl (lv_at hl 2 rfl) ?_
            refine lv_iconst (v := 1) hx hb dX8_say_111 (by decide) ?_
            refine lv_iadd hx hb dX8_say_112 ?_
            refine lv_goto (tgt := 117) hx hb dX8_say_113 (by decide) ?_
            have hb35 : ¬ (x20 + 1 < 0 ∨ 65 ≤ Int32.toNatClampNeg (x20 + 1)) := fun q => hs (hF.trans (if_pos q))
            have hF := hF.trans (if_neg hb35)
            refine km_iast (t := 36) (i := 0) (n := 65) hx hb hK hw (by decide) (by decide) (fun _ => rfl) hb35 dX8_say_117 (fun H locs hw => ?_)
            obtain ⟨v36, ev36⟩ : ∃ z, z = up3 v22 36 0 (Int32.toNatClampNeg (x20 + 1)) (r14 + 1) := ⟨_, rfl⟩
            rw [← ev36] at hw
            have hF := hF.trans (kb_some (congrArg some ev36.symm) _)
            refine lv_aload_n hx hb dX8_say_118 rfl (lv_at hl 3 rfl) ?_
            refine km_get (ci := 8) (C := RX8) (T := TX8) (N := 23) (t := 30) (i := 0) hx hb hts fi_X8_say_X8 hown hK hw (by decide) (by decide) rfl rfl 13 (by decide) (hts (.fieldLink RX8 25 "WrongWordModel" "now" "[I") ow_X8_say_25) rfl dX8_say_119 ?_
            refine lv_iload hx hb dX8_say_122 (lv_at hl 0 rfl) ?_
            refine lv_iconst (v := 2) hx hb dX8_say_124 (by decide) ?_
            refine lv_iadd hx hb dX8_say_125 ?_
            refine lv_iload hx hb dX8_say_126 (lv_at hl 1 rfl) ?_
            have hb37 : ¬ (x20 + 2 < 0 ∨ 65 ≤ Int32.toNatClampNeg (x20 + 2)) := fun q => hs (hF.trans (if_pos q))
            have hF := hF.trans (if_neg hb37)
            refine km_iast (t := 36) (i := 0) (n := 65) hx hb hK hw (by decide) (by decide) (fun _ => rfl) hb37 dX8_say_128 (fun H locs hw => ?_)
            obtain ⟨v38, ev38⟩ : ∃ z, z = up3 v36 36 0 (Int32.toNatClampNeg (x20 + 2)) 0 := ⟨_, rfl⟩
            rw [← ev38] at hw
            have hF := hF.trans (kb_some (congrArg some ev38.symm) _)
            refine lv_aload_n hx hb dX8_say_129 rfl (lv_at hl 3 rfl) ?_
            refine km_get (ci := 8) (C := RX8) (T := TX8) (N := 23) (t := 30) (i := 0) hx hb hts fi_X8_say_X8 hown hK hw (by decide) (by decide) rfl rfl 13 (by decide) (hts (.fieldLink RX8 25 "WrongWordModel" "now" "[I") ow_X8_say_25) rfl dX8_say_130 ?_
            refine lv_bipush (v := 7) hx hb dX8_say_133 (by decide) ?_
            refine lv_dup2_11 hx hb dX8_say_135 rfl rfl ?_
            refine km_iald (t := 36) (i := 0) hx hb hK hw (by decide) (by decide) rfl (by unfold vp_in; decide) dX8_say_136 ?_
            refine lv_iconst (v := 1) hx hb dX8_say_137 (by decide) ?_
            refine lv_iadd hx hb dX8_say_138 ?_
            refine km_iast (t := 36) (i := 0) (n := 65) hx hb hK hw (by decide) (by decide) (fun _ => rfl) (by unfold vp_in; decide) dX8_say_139 (fun H locs hw => ?_)
            obtain ⟨v39, ev39⟩ : ∃ z, z = up3 v38 36 0 (Int32.toNatClampNeg 7) ((v38 36 0 (Int32.toNatClampNeg 7)) + 1) := ⟨_, rfl⟩
            rw [← ev39] at hw
            have hF := hF.trans (kb_some (congrArg some ev39.symm) _)
            refine lv_aload_n hx hb dX8_say_140 rfl (lv_at hl 3 rfl) ?_
            refine km_get (ci := 8) (C := RX8) (T := TX8) (N := 23) (t := 30) (i := 0) hx hb hts fi_X8_say_X8 hown hK hw (by decide) (by decide) rfl rfl 13 (by decide) (hts (.fieldLink RX8 25 "WrongWordModel" "now" "[I") ow_X8_say_25) rfl dX8_say_141 ?_
            refine lv_bipush (v := 26) hx hb dX8_say_144 (by decide) ?_
            refine lv_iconst (v := 3) hx hb dX8_say_146 (by decide) ?_
            refine lv_iload_n hx hb dX8_say_147 rfl (lv_at hl 2 rfl) ?_
            refine lv_imul hx hb dX8_say_148 ?_
            refine lv_iadd hx hb dX8_say_149 ?_
            refine lv_iconst (v := 2) hx hb dX8_say_150 (by decide) ?_
            refine lv_iadd hx hb dX8_say_151 ?_
            refine lv_dup2_11 hx hb dX8_say_152 rfl rfl ?_
            have hb40 : ¬ (((26 : Int32) + ((3 : Int32) * r14)) + 2 < 0 ∨ 65 ≤ Int32.toNatClampNeg (((26 : Int32) + ((3 : Int32) * r14)) + 2)) := fun q => hs (hF.trans (if_pos q))
            have hF := hF.trans (if_neg hb40)
            refine km_iald (t := 36) (i := 0) hx hb hK hw (by decide) (by decide) rfl hb40 dX8_say_153 ?_
            refine lv_iload hx hb dX8_say_154 (lv_at hl 1 rfl) ?_
            refine lv_iadd hx hb dX8_say_156 ?_
            have hb41 : ¬ (((26 : Int32) + ((3 : Int32) * r14)) + 2 < 0 ∨ 65 ≤ Int32.toNatClampNeg (((26 : Int32) + ((3 : Int32) * r14)) + 2)) := fun q => hs (hF.trans (if_pos q))
            have hF := hF.trans (if_neg hb41)
            refine km_iast (t := 36) (i := 0) (n := 65) hx hb hK hw (by decide) (by decide) (fun _ => rfl) hb41 dX8_say_157 (fun H locs hw => ?_)
            obtain ⟨v42, ev42⟩ : ∃ z, z = up3 v39 36 0 (Int32.toNatClampNeg (((26 : Int32) + ((3 : Int32) * r14)) + 2)) ((v39 36 0 (Int32.toNatClampNeg (((26 : Int32) + ((3 : Int32) * r14)) + 2))) + 0) := ⟨_, rfl⟩
            rw [← ev42] at hw
            have hF := hF.trans (kb_some (congrArg some ev42.symm) _)
            refine lv_iload hx hb dX8_say_158 (lv_at hl 1 rfl) ?_
            exact hret _ _ _ _ _ _ hw dX8_say_160 hF
        · skip
          have hF := hF.trans (if_neg c19)
          refine lv_iconst (v := 1) hx hb dX8_say_59 (by decide) ?_
          refine lv_goto (tgt := 64) hx hb dX8_say_60 (by decide) ?_
          refine lv_istore (lv' := [(4, .int 1), (3, .int r14), (0, .ref (Z.1 30 0)), (1, .int a1), (2, .int a2)]) hx hb dX8_say_64 hl (by decide) rfl (fun ls hl => ?_)
          refine lv_bipush (v := 38) hx hb dX8_say_66 (by decide) ?_
          refine lv_iconst (v := 3) hx hb dX8_say_68 (by decide) ?_
          refine lv_aload_n hx hb dX8_say_69 rfl (lv_at hl 2 rfl) ?_
          refine km_get (ci := 8) (C := RX8) (T := TX8) (N := 23) (t := 30) (i := 0) hx hb hts fi_X8_say_X8 hown hK hw (by decide) (by decide) rfl rfl 13 (by decide) (hts (.fieldLink RX8 25 "WrongWordModel" "now" "[I") ow_X8_say_25) rfl dX8_say_70 ?_
          refine lv_bipush (v := 7) hx hb dX8_say_73 (by decide) ?_
          refine km_iald (t := 36) (i := 0) hx hb hK hw (by decide) (by decide) rfl (by unfold vp_in; decide) dX8_say_75 ?_
          refine lv_imul hx hb dX8_say_76 ?_
          refine lv_iadd hx hb dX8_say_77 ?_
          refine lv_topi (fun x43 ex43 => ?_)
          have hF := hF.trans (kb_some (congrArg some ex43.symm) _)
          refine lv_istore (lv' := [(5, .int x43), (4, .int 1), (3, .int r14), (0, .ref (Z.1 30 0)), (1, .int a1), (2, .int a2)]) hx hb dX8_say_78 hl (by decide) rfl (fun ls hl => ?_)
          refine lv_aload_n hx hb dX8_say_80 rfl (lv_at hl 3 rfl) ?_
          refine km_get (ci := 8) (C := RX8) (T := TX8) (N := 23) (t := 30) (i := 0) hx hb hts fi_X8_say_X8 hown hK hw (by decide) (by decide) rfl rfl 13 (by decide) (hts (.fieldLink RX8 25 "WrongWordModel" "now" "[I") ow_X8_say_25) rfl dX8_say_81 ?_
          refine lv_iload hx hb dX8_say_84 (lv_at hl 0 rfl) ?_
          refine lv_iload_n hx hb dX8_say_86 rfl (lv_at hl 4 rfl) ?_
          have hb44 : ¬ (x43 < 0 ∨ 65 ≤ Int32.toNatClampNeg x43) := fun q => hs (hF.trans (if_pos q))
          have hF := hF.trans (if_neg hb44)
          refine km_iast (t := 36) (i := 0) (n := 65) hx hb hK hw (by decide) (by decide) (fun _ => rfl) hb44 dX8_say_87 (fun H locs hw => ?_)
          obtain ⟨v45, ev45⟩ : ∃ z, z = up3 v12 36 0 (Int32.toNatClampNeg x43) a1 := ⟨_, rfl⟩
          rw [← ev45] at hw
          have hF := hF.trans (kb_some (congrArg some ev45.symm) _)
          refine lv_aload_n hx hb dX8_say_88 rfl (lv_at hl 3 rfl) ?_
          refine km_get (ci := 8) (C := RX8) (T := TX8) (N := 23) (t := 30) (i := 0) hx hb hts fi_X8_say_X8 hown hK hw (by decide) (by decide) rfl rfl 13 (by decide) (hts (.fieldLink RX8 25 "WrongWordModel" "now" "[I") ow_X8_say_25) rfl dX8_say_89 ?_
          refine lv_iload hx hb dX8_say_92 (lv_at hl 0 rfl) ?_
          refine lv_iconst (v := 1) hx hb dX8_say_94 (by decide) ?_
          refine lv_iadd hx hb dX8_say_95 ?_
          refine lv_aload_n hx hb dX8_say_96 rfl (lv_at hl 3 rfl) ?_
          refine km_get (ci := 8) (C := RX8) (T := TX8) (N := 23) (t := 30) (i := 0) hx hb hts fi_X8_say_X8 hown hK hw (by decide) (by decide) rfl rfl 13 (by decide) (hts (.fieldLink RX8 25 "WrongWordModel" "now" "[I") ow_X8_say_25) rfl dX8_say_97 ?_
          refine lv_bipush (v := 6) hx hb dX8_say_100 (by decide) ?_
          refine km_iald (t := 36) (i := 0) hx hb hK hw (by decide) (by decide) rfl (by unfold vp_in; decide) dX8_say_102 ?_
          refine lv_iload_n hx hb dX8_say_103 rfl (lv_at hl 2 rfl) ?_
          have hs46 : g_X8_has v45 (v45 36 0 (Int32.toNatClampNeg 6)) r14 ≠ none := fun q => hs (hF.trans (kb_n q _))
          refine km_cS (As := [.int (v45 36 0 (Int32.toNatClampNeg 6)), .int r14]) (rest := [.int (x43 + 1), .ref (Z.1 36 0)]) (n := 2) ⟨hx, hb, hml, hown, hts⟩ (d_X8_has l E Z v45 (v45 36 0 (Int32.toNatClampNeg 6)) r14 hs46) gX8_say_X8_has rfl hV_X8_has ⟨Nat.le_of_ble_eq_true rfl, Nat.le_of_ble_eq_true rfl⟩ hK hw rfl hl.1 rfl (Nat.le_of_ble_eq_true rfl) dX8_say_104 rfl rfl (fun r47 v48 H locs hp hw => ?_)
          obtain ⟨hp, hzr47⟩ := hp
          obtain ⟨hp, rfl⟩ := hp
          have hF := hF.trans (kb_some hp _)
          refine lv_if_eq (tgt := 116) hx hb dX8_say_107 (by decide) (fun c49 => ?_) (fun c49 => ?_)
          · skip
            have hF := hF.trans (if_pos c49)
            refine lv_iconst (v := 0) hx hb dX8_say_116 (by decide) ?_
            have hb50 : ¬ (x43 + 1 < 0 ∨ 65 ≤ Int32.toNatClampNeg (x43 + 1)) := fun q => hs (hF.trans (if_pos q))
            have hF := hF.trans (if_neg hb50)
            refine km_iast (t := 36) (i := 0) (n := 65) hx hb hK hw (by decide) (by decide) (fun _ => rfl) hb50 dX8_say_117 (fun H locs hw => ?_)
            obtain ⟨v51, ev51⟩ : ∃ z, z = up3 v45 36 0 (Int32.toNatClampNeg (x43 + 1)) 0 := ⟨_, rfl⟩
            rw [← ev51] at hw
            have hF := hF.trans (kb_some (congrArg some ev51.symm) _)
            refine lv_aload_n hx hb dX8_say_118 rfl (lv_at hl 3 rfl) ?_
            refine km_get (ci := 8) (C := RX8) (T := TX8) (N := 23) (t := 30) (i := 0) hx hb hts fi_X8_say_X8 hown hK hw (by decide) (by decide) rfl rfl 13 (by decide) (hts (.fieldLink RX8 25 "WrongWordModel" "now" "[I") ow_X8_say_25) rfl dX8_say_119 ?_
            refine lv_iload hx hb dX8_say_122 (lv_at hl 0 rfl) ?_
            refine lv_iconst (v := 2) hx hb dX8_say_124 (by decide) ?_
            refine lv_iadd hx hb dX8_say_125 ?_
            refine lv_iload hx hb dX8_say_126 (lv_at hl 1 rfl) ?_
            have hb52 : ¬ (x43 + 2 < 0 ∨ 65 ≤ Int32.toNatClampNeg (x43 + 2)) := fun q => hs (hF.trans (if_pos q))
            have hF := hF.trans (if_neg hb52)
            refine km_iast (t := 36) (i := 0) (n := 65) hx hb hK hw (by decide) (by decide) (fun _ => rfl) hb52 dX8_say_128 (fun H locs hw => ?_)
            obtain ⟨v53, ev53⟩ : ∃ z, z = up3 v51 36 0 (Int32.toNatClampNeg (x43 + 2)) 1 := ⟨_, rfl⟩
            rw [← ev53] at hw
            have hF := hF.trans (kb_some (congrArg some ev53.symm) _)
            refine lv_aload_n hx hb dX8_say_129 rfl (lv_at hl 3 rfl) ?_
            refine km_get (ci := 8) (C := RX8) (T := TX8) (N := 23) (t := 30) (i := 0) hx hb hts fi_X8_say_X8 hown hK hw (by decide) (by decide) rfl rfl 13 (by decide) (hts (.fieldLink RX8 25 "WrongWordModel" "now" "[I") ow_X8_say_25) rfl dX8_say_130 ?_
            refine lv_bipush (v := 7) hx hb dX8_say_133 (by decide) ?_
            refine lv_dup2_11 hx hb dX8_say_135 rfl rfl ?_
            refine km_iald (t := 36) (i := 0) hx hb hK hw (by decide) (by decide) rfl (by unfold vp_in; decide) dX8_say_136 ?_
            refine lv_iconst (v := 1) hx hb dX8_say_137 (by decide) ?_
            refine lv_iadd hx hb dX8_say_138 ?_
            refine km_iast (t := 36) (i := 0) (n := 65) hx hb hK hw (by decide) (by decide) (fun _ => rfl) (by unfold vp_in; decide) dX8_say_139 (fun H locs hw => ?_)
            obtain ⟨v54, ev54⟩ : ∃ z, z = up3 v53 36 0 (Int32.toNatClampNeg 7) ((v53 36 0 (Int32.toNatClampNeg 7)) + 1) := ⟨_, rfl⟩
            rw [← ev54] at hw
            have hF := hF.trans (kb_some (congrArg some ev54.symm) _)
            refine lv_aload_n hx hb dX8_say_140 rfl (lv_at hl 3 rfl) ?_
            refine km_get (ci := 8) (C := RX8) (T := TX8) (N := 23) (t := 30) (i := 0) hx hb hts fi_X8_say_X8 hown hK hw (by decide) (by decide) rfl rfl 13 (by decide) (hts (.fieldLink RX8 25 "WrongWordModel" "now" "[I") ow_X8_say_25) rfl dX8_say_141 ?_
            refine lv_bipush (v := 26) hx hb dX8_say_144 (by decide) ?_
            refine lv_iconst (v := 3) hx hb dX8_say_146 (by decide) ?_
            refine lv_iload_n hx hb dX8_say_147 rfl (lv_at hl 2 rfl) ?_
            refine lv_imul hx hb dX8_say_148 ?_
            refine lv_iadd hx hb dX8_say_149 ?_
            refine lv_iconst (v := 2) hx hb dX8_say_150 (by decide) ?_
            refine lv_iadd hx hb dX8_say_151 ?_
            refine lv_dup2_11 hx hb dX8_say_152 rfl rfl ?_
            have hb55 : ¬ (((26 : Int32) + ((3 : Int32) * r14)) + 2 < 0 ∨ 65 ≤ Int32.toNatClampNeg (((26 : Int32) + ((3 : Int32) * r14)) + 2)) := fun q => hs (hF.trans (if_pos q))
            have hF := hF.trans (if_neg hb55)
            refine km_iald (t := 36) (i := 0) hx hb hK hw (by decide) (by decide) rfl hb55 dX8_say_153 ?_
            refine lv_iload hx hb dX8_say_154 (lv_at hl 1 rfl) ?_
            refine lv_iadd hx hb dX8_say_156 ?_
            have hb56 : ¬ (((26 : Int32) + ((3 : Int32) * r14)) + 2 < 0 ∨ 65 ≤ Int32.toNatClampNeg (((26 : Int32) + ((3 : Int32) * r14)) + 2)) := fun q => hs (hF.trans (if_pos q))
            have hF := hF.trans (if_neg hb56)
            refine km_iast (t := 36) (i := 0) (n := 65) hx hb hK hw (by decide) (by decide) (fun _ => rfl) hb56 dX8_say_157 (fun H locs hw => ?_)
            obtain ⟨v57, ev57⟩ : ∃ z, z = up3 v54 36 0 (Int32.toNatClampNeg (((26 : Int32) + ((3 : Int32) * r14)) + 2)) ((v54 36 0 (Int32.toNatClampNeg (((26 : Int32) + ((3 : Int32) * r14)) + 2))) + 1) := ⟨_, rfl⟩
            rw [← ev57] at hw
            have hF := hF.trans (kb_some (congrArg some ev57.symm) _)
            refine lv_iload hx hb dX8_say_158 (lv_at hl 1 rfl) ?_
            exact hret _ _ _ _ _ _ hw dX8_say_160 hF
          · skip
            have hF := hF.trans (if_neg c49)
            refine lv_iload_n hx hb dX8_say_110 rfl (lv_at hl 2 rfl) ?_
            refine lv_iconst (v := 1) hx hb dX8_say_111 (by decide) ?_
            refine lv_iadd hx hb dX8_say_112 ?_
            refine lv_goto (tgt := 117) hx hb dX8_say_113 (by decide) ?_
            have hb58 : ¬ (x43 + 1 < 0 ∨ 65 ≤ Int32.toNatClampNeg (x43 + 1)) := fun q => hs (hF.trans (if_pos q))
            have hF := hF.trans (if_neg hb58)
            refine km_iast (t := 36) (i := 0) (n := 65) hx hb hK hw (by decide) (by decide) (fun _ => rfl) hb58 dX8_say_117 (fun H locs hw => ?_)
            obtain ⟨v59, ev59⟩ : ∃ z, z = up3 v45 36 0 (Int32.toNatClampNeg (x43 + 1)) (r14 + 1) := ⟨_, rfl⟩
            rw [← ev59] at hw
            have hF := hF.trans (kb_some (congrArg some ev59.symm) _)
            refine lv_aload_n hx hb dX8_say_118 rfl (lv_at hl 3 rfl) ?_
            refine km_get (ci := 8) (C := RX8) (T := TX8) (N := 23) (t := 30) (i := 0) hx hb hts fi_X8_say_X8 hown hK hw (by decide) (by decide) rfl rfl 13 (by decide) (hts (.fieldLink RX8 25 "WrongWordModel" "now" "[I") ow_X8_say_25) rfl dX8_say_119 ?_
            refine lv_iload hx hb dX8_say_122 (lv_at hl 0 rfl) ?_
            refine lv_iconst (v := 2) hx hb dX8_say_124 (by decide) ?_
            refine lv_iadd hx hb dX8_say_125 ?_
            refine lv_iload hx hb dX8_say_126 (lv_at hl 1 rfl) ?_
            have hb60 : ¬ (x43 + 2 < 0 ∨ 65 ≤ Int32.toNatClampNeg (x43 + 2)) := fun q => hs (hF.trans (if_pos q))
            have hF := hF.trans (if_neg hb60)
            refine km_iast (t := 36) (i := 0) (n := 65) hx hb hK hw (by decide) (by decide) (fun _ => rfl) hb60 dX8_say_128 (fun H locs hw => ?_)
            obtain ⟨v61, ev61⟩ : ∃ z, z = up3 v59 36 0 (Int32.toNatClampNeg (x43 + 2)) 1 := ⟨_, rfl⟩
            rw [← ev61] at hw
            have hF := hF.trans (kb_some (congrArg some ev61.symm) _)
            refine lv_aload_n hx hb dX8_say_129 rfl (lv_at hl 3 rfl) ?_
            refine km_get (ci := 8) (C := RX8) (T := TX8) (N := 23) (t := 30) (i := 0) hx hb hts fi_X8_say_X8 hown hK hw (by decide) (by decide) rfl rfl 13 (by decide) (hts (.fieldLink RX8 25 "WrongWordModel" "now" "[I") ow_X8_say_25) rfl dX8_say_130 ?_
            refine lv_bipush (v := 7) hx hb dX8_say_133 (by decide) ?_
            refine lv_dup2_11 hx hb dX8_say_135 rfl rfl ?_
            refine km_iald (t := 36) (i := 0) hx hb hK hw (by decide) (by decide) rfl (by unfold vp_in; decide) dX8_say_136 ?_
            refine lv_iconst (v := 1) hx hb dX8_say_137 (by decide) ?_
            refine lv_iadd hx hb dX8_say_138 ?_
            refine km_iast (t := 36) (i := 0) (n := 65) hx hb hK hw (by decide) (by decide) (fun _ => rfl) (by unfold vp_in; decide) dX8_say_139 (fun H locs hw => ?_)
            obtain ⟨v62, ev62⟩ : ∃ z, z = up3 v61 36 0 (Int32.toNatClampNeg 7) ((v61 36 0 (Int32.toNatClampNeg 7)) + 1) := ⟨_, rfl⟩
            rw [← ev62] at hw
            have hF := hF.trans (kb_some (congrArg some ev62.symm) _)
            refine lv_aload_n hx hb dX8_say_140 rfl (lv_at hl 3 rfl) ?_
            refine km_get (ci := 8) (C := RX8) (T := TX8) (N := 23) (t := 30) (i := 0) hx hb hts fi_X8_say_X8 hown hK hw (by decide) (by decide) rfl rfl 13 (by decide) (hts (.fieldLink RX8 25 "WrongWordModel" "now" "[I") ow_X8_say_25) rfl dX8_say_141 ?_
            refine lv_bipush (v := 26) hx hb dX8_say_144 (by decide) ?_
            refine lv_iconst (v := 3) hx hb dX8_say_146 (by decide) ?_
            refine lv_iload_n hx hb dX8_say_147 rfl (lv_at hl 2 rfl) ?_
            refine lv_imul hx hb dX8_say_148 ?_
            refine lv_iadd hx hb dX8_say_149 ?_
            refine lv_iconst (v := 2) hx hb dX8_say_150 (by decide) ?_
            refine lv_iadd hx hb dX8_say_151 ?_
            refine lv_dup2_11 hx hb dX8_say_152 rfl rfl ?_
            have hb63 : ¬ (((26 : Int32) + ((3 : Int32) * r14)) + 2 < 0 ∨ 65 ≤ Int32.toNatClampNeg (((26 : Int32) + ((3 : Int32) * r14)) + 2)) := fun q => hs (hF.trans (if_pos q))
            have hF := hF.trans (if_neg hb63)
            refine km_iald (t := 36) (i := 0) hx hb hK hw (by decide) (by decide) rfl hb63 dX8_say_153 ?_
            refine lv_iload hx hb dX8_say_154 (lv_at hl 1 rfl) ?_
            refine lv_iadd hx hb dX8_say_156 ?_
            have hb64 : ¬ (((26 : Int32) + ((3 : Int32) * r14)) + 2 < 0 ∨ 65 ≤ Int32.toNatClampNeg (((26 : Int32) + ((3 : Int32) * r14)) + 2)) := fun q => hs (hF.trans (if_pos q))
            have hF := hF.trans (if_neg hb64)
            refine km_iast (t := 36) (i := 0) (n := 65) hx hb hK hw (by decide) (by decide) (fun _ => rfl) hb64 dX8_say_157 (fun H locs hw => ?_)
            obtain ⟨v65, ev65⟩ : ∃ z, z = up3 v62 36 0 (Int32.toNatClampNeg (((26 : Int32) + ((3 : Int32) * r14)) + 2)) ((v62 36 0 (Int32.toNatClampNeg (((26 : Int32) + ((3 : Int32) * r14)) + 2))) + 1) := ⟨_, rfl⟩
            rw [← ev65] at hw
            have hF := hF.trans (kb_some (congrArg some ev65.symm) _)
            refine lv_iload hx hb dX8_say_158 (lv_at hl 1 rfl) ?_
            exact hret _ _ _ _ _ _ hw dX8_say_160 hF
      · skip
        have hF := hF.trans (if_pos c9)
        refine lv_ldc (v := (-1000003)) hx hb hown (hts (.constant RX8 85 (-1000003)) ow_X8_say_85) dX8_say_30 ?_
        exact hret _ _ _ _ _ _ hw dX8_say_32 hF
    · skip
      have hF := hF.trans (if_pos c8)
      refine lv_ldc (v := (-1000001)) hx hb hown (hts (.constant RX8 64 (-1000001)) ow_X8_say_64) dX8_say_15 ?_
      exact hret _ _ _ _ _ _ hw dX8_say_17 hF
abbrev rmX8_start : Room := { frames := 2, cells := 0, slots := 0, locals := 45 }
def g_X8_start (v : Mm) (a1 : Int32) : Option (Int32 × Mm) := Option.bind (g_X8_isGate v) (fun r2 => if r2 = 0 then (some ((-1000002), v)) else (Option.bind (g_X8_in v a1 0 9) (fun r6 => if r6 = 0 then (some ((-1000001), v)) else (Option.bind (g_X8_notes v) (fun v11 => Option.bind (some (up3 v11 36 0 (Int32.toNatClampNeg 0) a1)) (fun v12 => some (v11 36 0 (Int32.toNatClampNeg 0), v12)))))))
set_option maxHeartbeats 4000000 in
set_option maxRecDepth 100000 in
theorem d_X8_start (l : Launch) (E : kq_T) (Z : km_Z) (v : Mm) (a1 : Int32) (hs : g_X8_start v a1 ≠ none) : km_I l E Z cntM yX8_start wsX8_start rmX8_start [.ref (Z.1 30 0), .int a1] v (fun r v1 => g_X8_start v a1 = some (r, v1)) := by
  refine km_goI (cc := cX8_start) (maxL := 3) (by decide) rfl (Nat.le_of_ble_eq_true rfl) rfl rfl rfl ?_
  intro p e s m below meth c A ls Q C hK hw hl hret
  obtain ⟨hx, hb, hml, hown, hts, -, -, -⟩ := C
  have hown : s.vm.findClass RX8 = some m.cls := hown
  have hl : lv_has ls 3 [(0, .ref (Z.1 30 0)), (1, .int a1)] := hl
  have hF := g_X8_start.eq_1 v a1
  refine lv_aload_n hx hb dX8_start_0 rfl (lv_at hl 0 rfl) ?_
  have hs1 : g_X8_isGate v ≠ none := fun q => hs (hF.trans (kb_n q _))
  refine km_cI (As := []) (rest := []) (n := 0) (q := (RX8, TX8, 23)) (ci := 8) (t := 30) (i := 0) ⟨hx, hb, hml, hown, hts⟩ (d_X8_isGate l E Z v  hs1) gX8_start_X8_isGate rfl hV_X8_isGate ⟨Nat.le_of_ble_eq_true rfl, Nat.le_of_ble_eq_true rfl⟩ hK hw (by decide) (by decide) rfl rfl rfl hl.1 rfl (Nat.le_of_ble_eq_true rfl) dX8_start_1 rfl rfl (fun r2 v3 H locs hp hw => ?_)
  obtain ⟨hp, hzr2⟩ := hp
  obtain ⟨hp, rfl⟩ := hp
  have hF := hF.trans (kb_some hp _)
  refine lv_if_ne (tgt := 10) hx hb dX8_start_4 (by decide) (fun c4 => ?_) (fun c4 => ?_)
  · skip
    have hF := hF.trans (if_neg c4)
    refine lv_iload_n hx hb dX8_start_10 rfl (lv_at hl 1 rfl) ?_
    refine lv_iconst (v := 0) hx hb dX8_start_11 (by decide) ?_
    refine lv_bipush (v := 9) hx hb dX8_start_12 (by decide) ?_
    have hs5 : g_X8_in v a1 0 9 ≠ none := fun q => hs (hF.trans (kb_n q _))
    refine km_cS (As := [.int a1, .int 0, .int 9]) (rest := []) (n := 3) ⟨hx, hb, hml, hown, hts⟩ (d_X8_in l E Z v a1 0 9 hs5) gX8_start_X8_in rfl hV_X8_in ⟨Nat.le_of_ble_eq_true rfl, Nat.le_of_ble_eq_true rfl⟩ hK hw rfl hl.1 rfl (Nat.le_of_ble_eq_true rfl) dX8_start_14 rfl rfl (fun r6 v7 H locs hp hw => ?_)
    obtain ⟨hp, hzr6⟩ := hp
    obtain ⟨hp, rfl⟩ := hp
    have hF := hF.trans (kb_some hp _)
    refine lv_if_ne (tgt := 23) hx hb dX8_start_17 (by decide) (fun c8 => ?_) (fun c8 => ?_)
    · skip
      have hF := hF.trans (if_neg c8)
      refine lv_aload_n hx hb dX8_start_23 rfl (lv_at hl 0 rfl) ?_
      have hs9 : g_X8_notes v ≠ none := fun q => hs (hF.trans (kb_n q _))
      refine km_cV (As := []) (rest := []) (n := 0) (q := (RX8, TX8, 23)) (ci := 8) (t := 30) (i := 0) ⟨hx, hb, hml, hown, hts⟩ (d_X8_notes l E Z v  hs9) gX8_start_X8_notes rfl hV_X8_notes ⟨Nat.le_of_ble_eq_true rfl, Nat.le_of_ble_eq_true rfl⟩ hK hw (by decide) (by decide) rfl rfl rfl hl.1 rfl (Nat.le_of_ble_eq_true rfl) dX8_start_24 rfl rfl (fun v11 H locs hp hw => ?_)
      have hF := hF.trans (kb_some hp _)
      refine lv_aload_n hx hb dX8_start_27 rfl (lv_at hl 0 rfl) ?_
      refine km_get (ci := 8) (C := RX8) (T := TX8) (N := 23) (t := 30) (i := 0) hx hb hts fi_X8_start_X8 hown hK hw (by decide) (by decide) rfl rfl 13 (by decide) (hts (.fieldLink RX8 25 "WrongWordModel" "now" "[I") ow_X8_start_25) rfl dX8_start_28 ?_
      refine lv_iconst (v := 0) hx hb dX8_start_31 (by decide) ?_
      refine km_iald (t := 36) (i := 0) hx hb hK hw (by decide) (by decide) rfl (by unfold vp_in; decide) dX8_start_32 ?_
      refine lv_istore_n (lv' := [(2, .int (v11 36 0 (Int32.toNatClampNeg 0))), (0, .ref (Z.1 30 0)), (1, .int a1)]) hx hb dX8_start_33 rfl hl (by decide) rfl (fun ls hl => ?_)
      refine lv_aload_n hx hb dX8_start_34 rfl (lv_at hl 1 rfl) ?_
      refine km_get (ci := 8) (C := RX8) (T := TX8) (N := 23) (t := 30) (i := 0) hx hb hts fi_X8_start_X8 hown hK hw (by decide) (by decide) rfl rfl 13 (by decide) (hts (.fieldLink RX8 25 "WrongWordModel" "now" "[I") ow_X8_start_25) rfl dX8_start_35 ?_
      refine lv_iconst (v := 0) hx hb dX8_start_38 (by decide) ?_
      refine lv_iload_n hx hb dX8_start_39 rfl (lv_at hl 2 rfl) ?_
      refine km_iast (t := 36) (i := 0) (n := 65) hx hb hK hw (by decide) (by decide) (fun _ => rfl) (by unfold vp_in; decide) dX8_start_40 (fun H locs hw => ?_)
      obtain ⟨v12, ev12⟩ : ∃ z, z = up3 v11 36 0 (Int32.toNatClampNeg 0) a1 := ⟨_, rfl⟩
      rw [← ev12] at hw
      have hF := hF.trans (kb_some (congrArg some ev12.symm) _)
      refine lv_iload_n hx hb dX8_start_41 rfl (lv_at hl 0 rfl) ?_
      exact hret _ _ _ _ _ _ hw dX8_start_42 hF
    · skip
      have hF := hF.trans (if_pos c8)
      refine lv_ldc (v := (-1000001)) hx hb hown (hts (.constant RX8 64 (-1000001)) ow_X8_start_64) dX8_start_20 ?_
      exact hret _ _ _ _ _ _ hw dX8_start_22 hF
  · skip
    have hF := hF.trans (if_pos c4)
    refine lv_ldc (v := (-1000002)) hx hb hown (hts (.constant RX8 183 (-1000002)) ow_X8_start_183) dX8_start_7 ?_
    exact hret _ _ _ _ _ _ hw dX8_start_9 hF
abbrev rmX8_dismiss : Room := { frames := 2, cells := 0, slots := 0, locals := 45 }
def g_X8_dismiss (v : Mm) (a1 : Int32) (a2 : Int32) : Option (Int32 × Mm) := Option.bind (g_X8_isGuard v a1) (fun r2 => if r2 = 0 then (some ((-1000001), v)) else (Option.bind (g_X8_in v a2 0 1) (fun r6 => if r6 = 0 then (some ((-1000001), v)) else (if ((v 36 0 (Int32.toNatClampNeg 6)) >>> (a1 &&& 31)) &&& 1 = a2 then (some ((-1000002), v)) else (Option.bind (g_X8_notes v) (fun v12 => Option.bind (some (up3 v12 36 0 (Int32.toNatClampNeg 6) ((v12 36 0 (Int32.toNatClampNeg 6)) ^^^ ((1 : Int32) <<< (a1 &&& 31))))) (fun v13 => some (v13 36 0 (Int32.toNatClampNeg 6), v13))))))))
set_option maxHeartbeats 4000000 in
set_option maxRecDepth 100000 in
theorem d_X8_dismiss (l : Launch) (E : kq_T) (Z : km_Z) (v : Mm) (a1 : Int32) (a2 : Int32) (hs : g_X8_dismiss v a1 a2 ≠ none) : km_I l E Z cntM yX8_dismiss wsX8_dismiss rmX8_dismiss [.ref (Z.1 30 0), .int a1, .int a2] v (fun r v1 => g_X8_dismiss v a1 a2 = some (r, v1)) := by
  refine km_goI (cc := cX8_dismiss) (maxL := 3) (by decide) rfl (Nat.le_of_ble_eq_true rfl) rfl rfl rfl ?_
  intro p e s m below meth c A ls Q C hK hw hl hret
  obtain ⟨hx, hb, hml, hown, hts, -, -, -⟩ := C
  have hown : s.vm.findClass RX8 = some m.cls := hown
  have hl : lv_has ls 3 [(0, .ref (Z.1 30 0)), (1, .int a1), (2, .int a2)] := hl
  have hF := g_X8_dismiss.eq_1 v a1 a2
  refine lv_aload_n hx hb dX8_dismiss_0 rfl (lv_at hl 0 rfl) ?_
  refine lv_iload_n hx hb dX8_dismiss_1 rfl (lv_at hl 1 rfl) ?_
  have hs1 : g_X8_isGuard v a1 ≠ none := fun q => hs (hF.trans (kb_n q _))
  refine km_cI (As := [.int a1]) (rest := []) (n := 1) (q := (RX8, TX8, 23)) (ci := 8) (t := 30) (i := 0) ⟨hx, hb, hml, hown, hts⟩ (d_X8_isGuard l E Z v a1 hs1) gX8_dismiss_X8_isGuard rfl hV_X8_isGuard ⟨Nat.le_of_ble_eq_true rfl, Nat.le_of_ble_eq_true rfl⟩ hK hw (by decide) (by decide) rfl rfl rfl hl.1 rfl (Nat.le_of_ble_eq_true rfl) dX8_dismiss_2 rfl rfl (fun r2 v3 H locs hp hw => ?_)
  obtain ⟨hp, hzr2⟩ := hp
  obtain ⟨hp, rfl⟩ := hp
  have hF := hF.trans (kb_some hp _)
  refine lv_if_eq (tgt := 17) hx hb dX8_dismiss_5 (by decide) (fun c4 => ?_) (fun c4 => ?_)
  · skip
    have hF := hF.trans (if_pos c4)
    refine lv_ldc (v := (-1000001)) hx hb hown (hts (.constant RX8 64 (-1000001)) ow_X8_dismiss_64) dX8_dismiss_17 ?_
    exact hret _ _ _ _ _ _ hw dX8_dismiss_19 hF
  · skip
    have hF := hF.trans (if_neg c4)
    refine lv_iload_n hx hb dX8_dismiss_8 rfl (lv_at hl 2 rfl) ?_
    refine lv_iconst (v := 0) hx hb dX8_dismiss_9 (by decide) ?_
    refine lv_iconst (v := 1) hx hb dX8_dismiss_10 (by decide) ?_
    have hs5 : g_X8_in v a2 0 1 ≠ none := fun q => hs (hF.trans (kb_n q _))
    refine km_cS (As := [.int a2, .int 0, .int 1]) (rest := []) (n := 3) ⟨hx, hb, hml, hown, hts⟩ (d_X8_in l E Z v a2 0 1 hs5) gX8_dismiss_X8_in rfl hV_X8_in ⟨Nat.le_of_ble_eq_true rfl, Nat.le_of_ble_eq_true rfl⟩ hK hw rfl hl.1 rfl (Nat.le_of_ble_eq_true rfl) dX8_dismiss_11 rfl rfl (fun r6 v7 H locs hp hw => ?_)
    obtain ⟨hp, hzr6⟩ := hp
    obtain ⟨hp, rfl⟩ := hp
    have hF := hF.trans (kb_some hp _)
    refine lv_if_ne (tgt := 20) hx hb dX8_dismiss_14 (by decide) (fun c8 => ?_) (fun c8 => ?_)
    · skip
      have hF := hF.trans (if_neg c8)
      refine lv_aload_n hx hb dX8_dismiss_20 rfl (lv_at hl 0 rfl) ?_
      refine km_get (ci := 8) (C := RX8) (T := TX8) (N := 23) (t := 30) (i := 0) hx hb hts fi_X8_dismiss_X8 hown hK hw (by decide) (by decide) rfl rfl 13 (by decide) (hts (.fieldLink RX8 25 "WrongWordModel" "now" "[I") ow_X8_dismiss_25) rfl dX8_dismiss_21 ?_
      refine lv_bipush (v := 6) hx hb dX8_dismiss_24 (by decide) ?_
      refine km_iald (t := 36) (i := 0) hx hb hK hw (by decide) (by decide) rfl (by unfold vp_in; decide) dX8_dismiss_26 ?_
      refine lv_iload_n hx hb dX8_dismiss_27 rfl (lv_at hl 1 rfl) ?_
      refine lv_ishr hx hb dX8_dismiss_28 ?_
      refine lv_iconst (v := 1) hx hb dX8_dismiss_29 (by decide) ?_
      refine lv_iand hx hb dX8_dismiss_30 ?_
      refine lv_iload_n hx hb dX8_dismiss_31 rfl (lv_at hl 2 rfl) ?_
      refine lv_icmp_ne (tgt := 38) hx hb dX8_dismiss_32 (by decide) (fun c9 => ?_) (fun c9 => ?_)
      · skip
        have hF := hF.trans (if_neg c9)
        refine lv_aload_n hx hb dX8_dismiss_38 rfl (lv_at hl 0 rfl) ?_
        have hs10 : g_X8_notes v ≠ none := fun q => hs (hF.trans (kb_n q _))
        refine km_cV (As := []) (rest := []) (n := 0) (q := (RX8, TX8, 23)) (ci := 8) (t := 30) (i := 0) ⟨hx, hb, hml, hown, hts⟩ (d_X8_notes l E Z v  hs10) gX8_dismiss_X8_notes rfl hV_X8_notes ⟨Nat.le_of_ble_eq_true rfl, Nat.le_of_ble_eq_true rfl⟩ hK hw (by decide) (by decide) rfl rfl rfl hl.1 rfl (Nat.le_of_ble_eq_true rfl) dX8_dismiss_39 rfl rfl (fun v12 H locs hp hw => ?_)
        have hF := hF.trans (kb_some hp _)
        refine lv_aload_n hx hb dX8_dismiss_42 rfl (lv_at hl 0 rfl) ?_
        refine km_get (ci := 8) (C := RX8) (T := TX8) (N := 23) (t := 30) (i := 0) hx hb hts fi_X8_dismiss_X8 hown hK hw (by decide) (by decide) rfl rfl 13 (by decide) (hts (.fieldLink RX8 25 "WrongWordModel" "now" "[I") ow_X8_dismiss_25) rfl dX8_dismiss_43 ?_
        refine lv_bipush (v := 6) hx hb dX8_dismiss_46 (by decide) ?_
        refine lv_dup2_11 hx hb dX8_dismiss_48 rfl rfl ?_
        refine km_iald (t := 36) (i := 0) hx hb hK hw (by decide) (by decide) rfl (by unfold vp_in; decide) dX8_dismiss_49 ?_
        refine lv_iconst (v := 1) hx hb dX8_dismiss_50 (by decide) ?_
        refine lv_iload_n hx hb dX8_dismiss_51 rfl (lv_at hl 1 rfl) ?_
        refine lv_ishl hx hb dX8_dismiss_52 ?_
        refine lv_ixor hx hb dX8_dismiss_53 ?_
        refine km_iast (t := 36) (i := 0) (n := 65) hx hb hK hw (by decide) (by decide) (fun _ => rfl) (by unfold vp_in; decide) dX8_dismiss_54 (fun H locs hw => ?_)
        obtain ⟨v13, ev13⟩ : ∃ z, z = up3 v12 36 0 (Int32.toNatClampNeg 6) ((v12 36 0 (Int32.toNatClampNeg 6)) ^^^ ((1 : Int32) <<< (a1 &&& 31))) := ⟨_, rfl⟩
        rw [← ev13] at hw
        have hF := hF.trans (kb_some (congrArg some ev13.symm) _)
        refine lv_aload_n hx hb dX8_dismiss_55 rfl (lv_at hl 0 rfl) ?_
        refine km_get (ci := 8) (C := RX8) (T := TX8) (N := 23) (t := 30) (i := 0) hx hb hts fi_X8_dismiss_X8 hown hK hw (by decide) (by decide) rfl rfl 13 (by decide) (hts (.fieldLink RX8 25 "WrongWordModel" "now" "[I") ow_X8_dismiss_25) rfl dX8_dismiss_56 ?_
        refine lv_bipush (v := 6) hx hb dX8_dismiss_59 (by decide) ?_
        refine km_iald (t := 36) (i := 0) hx hb hK hw (by decide) (by decide) rfl (by unfold vp_in; decide) dX8_dismiss_61 ?_
        exact hret _ _ _ _ _ _ hw dX8_dismiss_62 hF
      · skip
        have hF := hF.trans (if_pos c9)
        refine lv_ldc (v := (-1000002)) hx hb hown (hts (.constant RX8 183 (-1000002)) ow_X8_dismiss_183) dX8_dismiss_35 ?_
        exact hret _ _ _ _ _ _ hw dX8_dismiss_37 hF
    · skip
      have hF := hF.trans (if_pos c8)
      refine lv_ldc (v := (-1000001)) hx hb hown (hts (.constant RX8 64 (-1000001)) ow_X8_dismiss_64) dX8_dismiss_17 ?_
      exact hret _ _ _ _ _ _ hw dX8_dismiss_19 hF
abbrev rmX8_undo : Room := { frames := 1, cells := 0, slots := 0, locals := 24 }
def g_X8_undo (v : Mm)  : Option (Int32 × Mm) := if v 30 0 17 = 0 then (some ((-1000002), v)) else (Option.bind (some (up3 v 30 0 17 ((v 30 0 17) - 1))) (fun v2 => Option.bind (g_X8_copies_39_36 v2 ((65 : Int32) * (v2 30 0 17)) 0) (fun v5 => some (v5 30 0 17, v5))))
set_option maxHeartbeats 4000000 in
set_option maxRecDepth 100000 in
theorem d_X8_undo (l : Launch) (E : kq_T) (Z : km_Z) (v : Mm) (hs : g_X8_undo v ≠ none) : km_I l E Z cntM yX8_undo wsX8_undo rmX8_undo [.ref (Z.1 30 0)] v (fun r v1 => g_X8_undo v = some (r, v1)) := by
  refine km_goI (cc := cX8_undo) (maxL := 1) (by decide) rfl (Nat.le_of_ble_eq_true rfl) rfl rfl rfl ?_
  intro p e s m below meth c A ls Q C hK hw hl hret
  obtain ⟨hx, hb, hml, hown, hts, -, -, -⟩ := C
  have hown : s.vm.findClass RX8 = some m.cls := hown
  have hl : lv_has ls 1 [(0, .ref (Z.1 30 0))] := hl
  have hF := g_X8_undo.eq_1 v 
  refine lv_aload_n hx hb dX8_undo_0 rfl (lv_at hl 0 rfl) ?_
  refine km_get (ci := 8) (C := RX8) (T := TX8) (N := 23) (t := 30) (i := 0) hx hb hts fi_X8_undo_X8 hown hK hw (by decide) (by decide) rfl rfl 17 (by decide) (hts (.fieldLink RX8 149 "WrongWordModel" "acts" "I") ow_X8_undo_149) rfl dX8_undo_1 ?_
  refine lv_if_ne (tgt := 10) hx hb dX8_undo_4 (by decide) (fun c1 => ?_) (fun c1 => ?_)
  · skip
    have hF := hF.trans (if_neg c1)
    refine lv_aload_n hx hb dX8_undo_10 rfl (lv_at hl 0 rfl) ?_
    refine lv_dup hx hb dX8_undo_11 rfl ?_
    refine km_get (ci := 8) (C := RX8) (T := TX8) (N := 23) (t := 30) (i := 0) hx hb hts fi_X8_undo_X8 hown hK hw (by decide) (by decide) rfl rfl 17 (by decide) (hts (.fieldLink RX8 149 "WrongWordModel" "acts" "I") ow_X8_undo_149) rfl dX8_undo_12 ?_
    refine lv_iconst (v := 1) hx hb dX8_undo_15 (by decide) ?_
    refine lv_isub hx hb dX8_undo_16 ?_
    refine km_put (ci := 8) (C := RX8) (T := TX8) (N := 23) (t := 30) (i := 0) hx hb hts fi_X8_undo_X8 tyX8 tyX8_ok nmX8 hown hK hw (by decide) (by decide) rfl rfl 17 (by decide) (hts (.fieldLink RX8 149 "WrongWordModel" "acts" "I") ow_X8_undo_149) rfl (by decide +kernel) (Nat.le_of_ble_eq_true rfl) rfl dX8_undo_17 (fun H locs hw => ?_)
    obtain ⟨v2, ev2⟩ : ∃ z, z = up3 v 30 0 17 ((v 30 0 17) - 1) := ⟨_, rfl⟩
    rw [← ev2] at hw
    have hF := hF.trans (kb_some (congrArg some ev2.symm) _)
    refine lv_aload_n hx hb dX8_undo_20 rfl (lv_at hl 0 rfl) ?_
    refine km_get (ci := 8) (C := RX8) (T := TX8) (N := 23) (t := 30) (i := 0) hx hb hts fi_X8_undo_X8 hown hK hw (by decide) (by decide) rfl rfl 16 (by decide) (hts (.fieldLink RX8 34 "WrongWordModel" "past" "[I") ow_X8_undo_34) rfl dX8_undo_21 ?_
    refine lv_bipush (v := 65) hx hb dX8_undo_24 (by decide) ?_
    refine lv_aload_n hx hb dX8_undo_26 rfl (lv_at hl 0 rfl) ?_
    refine km_get (ci := 8) (C := RX8) (T := TX8) (N := 23) (t := 30) (i := 0) hx hb hts fi_X8_undo_X8 hown hK hw (by decide) (by decide) rfl rfl 17 (by decide) (hts (.fieldLink RX8 149 "WrongWordModel" "acts" "I") ow_X8_undo_149) rfl dX8_undo_27 ?_
    refine lv_imul hx hb dX8_undo_30 ?_
    refine lv_aload_n hx hb dX8_undo_31 rfl (lv_at hl 0 rfl) ?_
    refine km_get (ci := 8) (C := RX8) (T := TX8) (N := 23) (t := 30) (i := 0) hx hb hts fi_X8_undo_X8 hown hK hw (by decide) (by decide) rfl rfl 13 (by decide) (hts (.fieldLink RX8 25 "WrongWordModel" "now" "[I") ow_X8_undo_25) rfl dX8_undo_32 ?_
    refine lv_iconst (v := 0) hx hb dX8_undo_35 (by decide) ?_
    have hs3 : g_X8_copies_39_36 v2 ((65 : Int32) * (v2 30 0 17)) 0 ≠ none := fun q => hs (hF.trans (kb_n q _))
    refine km_cSV (As := [.ref (Z.1 39 0), .int ((65 : Int32) * (v2 30 0 17)), .ref (Z.1 36 0), .int 0]) (rest := []) (n := 4) ⟨hx, hb, hml, hown, hts⟩ (d_X8_copies_39_36 l E Z v2 ((65 : Int32) * (v2 30 0 17)) 0 hs3) gX8_undo_X8_copies rfl hV_X8_copies ⟨Nat.le_of_ble_eq_true rfl, Nat.le_of_ble_eq_true rfl⟩ hK hw rfl hl.1 rfl (Nat.le_of_ble_eq_true rfl) dX8_undo_36 rfl rfl (fun v5 H locs hp hw => ?_)
    have hF := hF.trans (kb_some hp _)
    refine lv_aload_n hx hb dX8_undo_39 rfl (lv_at hl 0 rfl) ?_
    refine km_get (ci := 8) (C := RX8) (T := TX8) (N := 23) (t := 30) (i := 0) hx hb hts fi_X8_undo_X8 hown hK hw (by decide) (by decide) rfl rfl 17 (by decide) (hts (.fieldLink RX8 149 "WrongWordModel" "acts" "I") ow_X8_undo_149) rfl dX8_undo_40 ?_
    exact hret _ _ _ _ _ _ hw dX8_undo_43 hF
  · skip
    have hF := hF.trans (if_pos c1)
    refine lv_ldc (v := (-1000002)) hx hb hown (hts (.constant RX8 183 (-1000002)) ow_X8_undo_183) dX8_undo_7 ?_
    exact hret _ _ _ _ _ _ hw dX8_undo_9 hF
abbrev rmX8_letter : Room := { frames := 2, cells := 0, slots := 0, locals := 43 }
def g_X8_letter (v : Mm) (a1 : Int32) (a2 : Int32) : Option (Int32) := Option.bind (g_X8_isWord v a1) (fun r2 => if r2 = 0 then (some ((-1000001))) else (Option.bind (g_X8_in v a2 0 2) (fun r6 => if r6 = 0 then (some ((-1000001))) else (if ((8 : Int32) + ((3 : Int32) * a1)) + a2 < 0 ∨ 65 ≤ Int32.toNatClampNeg (((8 : Int32) + ((3 : Int32) * a1)) + a2) then none else (some (v 36 0 (Int32.toNatClampNeg (((8 : Int32) + ((3 : Int32) * a1)) + a2))))))))
set_option maxHeartbeats 4000000 in
set_option maxRecDepth 100000 in
theorem d_X8_letter (l : Launch) (E : kq_T) (Z : km_Z) (v : Mm) (a1 : Int32) (a2 : Int32) (hs : g_X8_letter v a1 a2 ≠ none) : km_I l E Z cntM yX8_letter wsX8_letter rmX8_letter [.ref (Z.1 30 0), .int a1, .int a2] v (fun r v1 => g_X8_letter v a1 a2 = some r ∧ v = v1) := by
  refine km_goI (cc := cX8_letter) (maxL := 3) (by decide) rfl (Nat.le_of_ble_eq_true rfl) rfl rfl rfl ?_
  intro p e s m below meth c A ls Q C hK hw hl hret
  obtain ⟨hx, hb, hml, hown, hts, -, -, -⟩ := C
  have hown : s.vm.findClass RX8 = some m.cls := hown
  have hl : lv_has ls 3 [(0, .ref (Z.1 30 0)), (1, .int a1), (2, .int a2)] := hl
  have hF := g_X8_letter.eq_1 v a1 a2
  refine lv_aload_n hx hb dX8_letter_0 rfl (lv_at hl 0 rfl) ?_
  refine lv_iload_n hx hb dX8_letter_1 rfl (lv_at hl 1 rfl) ?_
  have hs1 : g_X8_isWord v a1 ≠ none := fun q => hs (hF.trans (kb_n q _))
  refine km_cI (As := [.int a1]) (rest := []) (n := 1) (q := (RX8, TX8, 23)) (ci := 8) (t := 30) (i := 0) ⟨hx, hb, hml, hown, hts⟩ (d_X8_isWord l E Z v a1 hs1) gX8_letter_X8_isWord rfl hV_X8_isWord ⟨Nat.le_of_ble_eq_true rfl, Nat.le_of_ble_eq_true rfl⟩ hK hw (by decide) (by decide) rfl rfl rfl hl.1 rfl (Nat.le_of_ble_eq_true rfl) dX8_letter_2 rfl rfl (fun r2 v3 H locs hp hw => ?_)
  obtain ⟨hp, hzr2⟩ := hp
  obtain ⟨hp, rfl⟩ := hp
  have hF := hF.trans (kb_some hp _)
  refine lv_if_eq (tgt := 33) hx hb dX8_letter_5 (by decide) (fun c4 => ?_) (fun c4 => ?_)
  · skip
    have hF := hF.trans (if_pos c4)
    refine lv_ldc (v := (-1000001)) hx hb hown (hts (.constant RX8 64 (-1000001)) ow_X8_letter_64) dX8_letter_33 ?_
    exact hret _ _ _ _ _ _ hw dX8_letter_35 ⟨hF, rfl⟩
  · skip
    have hF := hF.trans (if_neg c4)
    refine lv_iload_n hx hb dX8_letter_8 rfl (lv_at hl 2 rfl) ?_
    refine lv_iconst (v := 0) hx hb dX8_letter_9 (by decide) ?_
    refine lv_iconst (v := 2) hx hb dX8_letter_10 (by decide) ?_
    have hs5 : g_X8_in v a2 0 2 ≠ none := fun q => hs (hF.trans (kb_n q _))
    refine km_cS (As := [.int a2, .int 0, .int 2]) (rest := []) (n := 3) ⟨hx, hb, hml, hown, hts⟩ (d_X8_in l E Z v a2 0 2 hs5) gX8_letter_X8_in rfl hV_X8_in ⟨Nat.le_of_ble_eq_true rfl, Nat.le_of_ble_eq_true rfl⟩ hK hw rfl hl.1 rfl (Nat.le_of_ble_eq_true rfl) dX8_letter_11 rfl rfl (fun r6 v7 H locs hp hw => ?_)
    obtain ⟨hp, hzr6⟩ := hp
    obtain ⟨hp, rfl⟩ := hp
    have hF := hF.trans (kb_some hp _)
    refine lv_if_eq (tgt := 33) hx hb dX8_letter_14 (by decide) (fun c8 => ?_) (fun c8 => ?_)
    · skip
      have hF := hF.trans (if_pos c8)
      refine lv_ldc (v := (-1000001)) hx hb hown (hts (.constant RX8 64 (-1000001)) ow_X8_letter_64) dX8_letter_33 ?_
      exact hret _ _ _ _ _ _ hw dX8_letter_35 ⟨hF, rfl⟩
    · skip
      have hF := hF.trans (if_neg c8)
      refine lv_aload_n hx hb dX8_letter_17 rfl (lv_at hl 0 rfl) ?_
      refine km_get (ci := 8) (C := RX8) (T := TX8) (N := 23) (t := 30) (i := 0) hx hb hts fi_X8_letter_X8 hown hK hw (by decide) (by decide) rfl rfl 13 (by decide) (hts (.fieldLink RX8 25 "WrongWordModel" "now" "[I") ow_X8_letter_25) rfl dX8_letter_18 ?_
      refine lv_bipush (v := 8) hx hb dX8_letter_21 (by decide) ?_
      refine lv_iconst (v := 3) hx hb dX8_letter_23 (by decide) ?_
      refine lv_iload_n hx hb dX8_letter_24 rfl (lv_at hl 1 rfl) ?_
      refine lv_imul hx hb dX8_letter_25 ?_
      refine lv_iadd hx hb dX8_letter_26 ?_
      refine lv_iload_n hx hb dX8_letter_27 rfl (lv_at hl 2 rfl) ?_
      refine lv_iadd hx hb dX8_letter_28 ?_
      have hb9 : ¬ (((8 : Int32) + ((3 : Int32) * a1)) + a2 < 0 ∨ 65 ≤ Int32.toNatClampNeg (((8 : Int32) + ((3 : Int32) * a1)) + a2)) := fun q => hs (hF.trans (if_pos q))
      have hF := hF.trans (if_neg hb9)
      refine km_iald (t := 36) (i := 0) hx hb hK hw (by decide) (by decide) rfl hb9 dX8_letter_29 ?_
      refine lv_goto (tgt := 35) hx hb dX8_letter_30 (by decide) ?_
      exact hret _ _ _ _ _ _ hw dX8_letter_35 ⟨hF, rfl⟩
abbrev rmX8_like : Room := { frames := 2, cells := 0, slots := 0, locals := 43 }
def g_X8_like (v : Mm) (a1 : Int32) (a2 : Int32) (a3 : Int32) : Option (Int32) := Option.bind (g_X8_isWord v a1) (fun r2 => if r2 = 0 then (some ((-1000001))) else (Option.bind (g_X8_isWord v a2) (fun r6 => if r6 = 0 then (some ((-1000001))) else (Option.bind (g_X8_in v a3 0 1) (fun r10 => if r10 = 0 then (some ((-1000001))) else (if a3 = 0 then (Option.bind (g_X8_distance v a1 a2) (fun r18 => some r18)) else (Option.bind (g_X8_lips v a1 a2) (fun r15 => some r15))))))))
set_option maxHeartbeats 4000000 in
set_option maxRecDepth 100000 in
theorem d_X8_like (l : Launch) (E : kq_T) (Z : km_Z) (v : Mm) (a1 : Int32) (a2 : Int32) (a3 : Int32) (hs : g_X8_like v a1 a2 a3 ≠ none) : km_I l E Z cntM yX8_like wsX8_like rmX8_like [.ref (Z.1 30 0), .int a1, .int a2, .int a3] v (fun r v1 => g_X8_like v a1 a2 a3 = some r ∧ v = v1) := by
  refine km_goI (cc := cX8_like) (maxL := 4) (by decide) rfl (Nat.le_of_ble_eq_true rfl) rfl rfl rfl ?_
  intro p e s m below meth c A ls Q C hK hw hl hret
  obtain ⟨hx, hb, hml, hown, hts, -, -, -⟩ := C
  have hown : s.vm.findClass RX8 = some m.cls := hown
  have hl : lv_has ls 4 [(0, .ref (Z.1 30 0)), (1, .int a1), (2, .int a2), (3, .int a3)] := hl
  have hF := g_X8_like.eq_1 v a1 a2 a3
  refine lv_aload_n hx hb dX8_like_0 rfl (lv_at hl 0 rfl) ?_
  refine lv_iload_n hx hb dX8_like_1 rfl (lv_at hl 1 rfl) ?_
  have hs1 : g_X8_isWord v a1 ≠ none := fun q => hs (hF.trans (kb_n q _))
  refine km_cI (As := [.int a1]) (rest := []) (n := 1) (q := (RX8, TX8, 23)) (ci := 8) (t := 30) (i := 0) ⟨hx, hb, hml, hown, hts⟩ (d_X8_isWord l E Z v a1 hs1) gX8_like_X8_isWord rfl hV_X8_isWord ⟨Nat.le_of_ble_eq_true rfl, Nat.le_of_ble_eq_true rfl⟩ hK hw (by decide) (by decide) rfl rfl rfl hl.1 rfl (Nat.le_of_ble_eq_true rfl) dX8_like_2 rfl rfl (fun r2 v3 H locs hp hw => ?_)
  obtain ⟨hp, hzr2⟩ := hp
  obtain ⟨hp, rfl⟩ := hp
  have hF := hF.trans (kb_some hp _)
  refine lv_if_eq (tgt := 25) hx hb dX8_like_5 (by decide) (fun c4 => ?_) (fun c4 => ?_)
  · skip
    have hF := hF.trans (if_pos c4)
    refine lv_ldc (v := (-1000001)) hx hb hown (hts (.constant RX8 64 (-1000001)) ow_X8_like_64) dX8_like_25 ?_
    exact hret _ _ _ _ _ _ hw dX8_like_27 ⟨hF, rfl⟩
  · skip
    have hF := hF.trans (if_neg c4)
    refine lv_aload_n hx hb dX8_like_8 rfl (lv_at hl 0 rfl) ?_
    refine lv_iload_n hx hb dX8_like_9 rfl (lv_at hl 2 rfl) ?_
    have hs5 : g_X8_isWord v a2 ≠ none := fun q => hs (hF.trans (kb_n q _))
    refine km_cI (As := [.int a2]) (rest := []) (n := 1) (q := (RX8, TX8, 23)) (ci := 8) (t := 30) (i := 0) ⟨hx, hb, hml, hown, hts⟩ (d_X8_isWord l E Z v a2 hs5) gX8_like_X8_isWord rfl hV_X8_isWord ⟨Nat.le_of_ble_eq_true rfl, Nat.le_of_ble_eq_true rfl⟩ hK hw (by decide) (by decide) rfl rfl rfl hl.1 rfl (Nat.le_of_ble_eq_true rfl) dX8_like_10 rfl rfl (fun r6 v7 H locs hp hw => ?_)
    obtain ⟨hp, hzr6⟩ := hp
    obtain ⟨hp, rfl⟩ := hp
    have hF := hF.trans (kb_some hp _)
    refine lv_if_eq (tgt := 25) hx hb dX8_like_13 (by decide) (fun c8 => ?_) (fun c8 => ?_)
    · skip
      have hF := hF.trans (if_pos c8)
      refine lv_ldc (v := (-1000001)) hx hb hown (hts (.constant RX8 64 (-1000001)) ow_X8_like_64) dX8_like_25 ?_
      exact hret _ _ _ _ _ _ hw dX8_like_27 ⟨hF, rfl⟩
    · skip
      have hF := hF.trans (if_neg c8)
      refine lv_iload_n hx hb dX8_like_16 rfl (lv_at hl 3 rfl) ?_
      refine lv_iconst (v := 0) hx hb dX8_like_17 (by decide) ?_
      refine lv_iconst (v := 1) hx hb dX8_like_18 (by decide) ?_
      have hs9 : g_X8_in v a3 0 1 ≠ none := fun q => hs (hF.trans (kb_n q _))
      refine km_cS (As := [.int a3, .int 0, .int 1]) (rest := []) (n := 3) ⟨hx, hb, hml, hown, hts⟩ (d_X8_in l E Z v a3 0 1 hs9) gX8_like_X8_in rfl hV_X8_in ⟨Nat.le_of_ble_eq_true rfl, Nat.le_of_ble_eq_true rfl⟩ hK hw rfl hl.1 rfl (Nat.le_of_ble_eq_true rfl) dX8_like_19 rfl rfl (fun r10 v11 H locs hp hw => ?_)
      obtain ⟨hp, hzr10⟩ := hp
      obtain ⟨hp, rfl⟩ := hp
      have hF := hF.trans (kb_some hp _)
      refine lv_if_ne (tgt := 28) hx hb dX8_like_22 (by decide) (fun c12 => ?_) (fun c12 => ?_)
      · skip
        have hF := hF.trans (if_neg c12)
        refine lv_iload_n hx hb dX8_like_28 rfl (lv_at hl 3 rfl) ?_
        refine lv_if_ne (tgt := 41) hx hb dX8_like_29 (by decide) (fun c13 => ?_) (fun c13 => ?_)
        · skip
          have hF := hF.trans (if_neg c13)
          refine lv_aload_n hx hb dX8_like_41 rfl (lv_at hl 0 rfl) ?_
          refine lv_iload_n hx hb dX8_like_42 rfl (lv_at hl 1 rfl) ?_
          refine lv_iload_n hx hb dX8_like_43 rfl (lv_at hl 2 rfl) ?_
          have hs14 : g_X8_lips v a1 a2 ≠ none := fun q => hs (hF.trans (kb_n q _))
          refine km_cI (As := [.int a1, .int a2]) (rest := []) (n := 2) (q := (RX8, TX8, 23)) (ci := 8) (t := 30) (i := 0) ⟨hx, hb, hml, hown, hts⟩ (d_X8_lips l E Z v a1 a2 hs14) gX8_like_X8_lips rfl hV_X8_lips ⟨Nat.le_of_ble_eq_true rfl, Nat.le_of_ble_eq_true rfl⟩ hK hw (by decide) (by decide) rfl rfl rfl hl.1 rfl (Nat.le_of_ble_eq_true rfl) dX8_like_44 rfl rfl (fun r15 v16 H locs hp hw => ?_)
          obtain ⟨hp, rfl⟩ := hp
          have hF := hF.trans (kb_some hp _)
          exact hret _ _ _ _ _ _ hw dX8_like_47 ⟨hF, rfl⟩
        · skip
          have hF := hF.trans (if_pos c13)
          refine lv_aload_n hx hb dX8_like_32 rfl (lv_at hl 0 rfl) ?_
          refine lv_iload_n hx hb dX8_like_33 rfl (lv_at hl 1 rfl) ?_
          refine lv_iload_n hx hb dX8_like_34 rfl (lv_at hl 2 rfl) ?_
          have hs17 : g_X8_distance v a1 a2 ≠ none := fun q => hs (hF.trans (kb_n q _))
          refine km_cI (As := [.int a1, .int a2]) (rest := []) (n := 2) (q := (RX8, TX8, 23)) (ci := 8) (t := 30) (i := 0) ⟨hx, hb, hml, hown, hts⟩ (d_X8_distance l E Z v a1 a2 hs17) gX8_like_X8_distance rfl hV_X8_distance ⟨Nat.le_of_ble_eq_true rfl, Nat.le_of_ble_eq_true rfl⟩ hK hw (by decide) (by decide) rfl rfl rfl hl.1 rfl (Nat.le_of_ble_eq_true rfl) dX8_like_35 rfl rfl (fun r18 v19 H locs hp hw => ?_)
          obtain ⟨hp, rfl⟩ := hp
          have hF := hF.trans (kb_some hp _)
          refine lv_goto (tgt := 47) hx hb dX8_like_38 (by decide) ?_
          exact hret _ _ _ _ _ _ hw dX8_like_47 ⟨hF, rfl⟩
      · skip
        have hF := hF.trans (if_pos c12)
        refine lv_ldc (v := (-1000001)) hx hb hown (hts (.constant RX8 64 (-1000001)) ow_X8_like_64) dX8_like_25 ?_
        exact hret _ _ _ _ _ _ hw dX8_like_27 ⟨hF, rfl⟩
abbrev rmX8_hoursOf : Room := { frames := 1, cells := 0, slots := 0, locals := 22 }
def b_X8_hoursOf_L4  (rec4 : Int32 → Int32 → Option (Int32)) (v : Mm) (a1 : Int32) (x2_4 : Int32) (x3_4 : Int32) : Option (Int32) := if 6 ≤ x3_4 then (some x2_4) else (Option.bind (g_X8_guardOn v x3_4 (v 36 0 (Int32.toNatClampNeg 5))) (fun r3 => if r3 = a1 then (Option.bind (some (x2_4 ||| ((1 : Int32) <<< (x3_4 &&& 31)))) (fun x6 => rec4 x6 (x3_4 + 1))) else (rec4 (x2_4 ||| 0) (x3_4 + 1))))
def g_X8_hoursOf_L4  (v : Mm) (a1 : Int32) : Nat → Int32 → Int32 → Option (Int32)
  | 0 => fun _ _ => none
  | n + 1 => b_X8_hoursOf_L4  (g_X8_hoursOf_L4  v a1 n) v a1
def g_X8_hoursOf (v : Mm) (a1 : Int32) : Option (Int32) := g_X8_hoursOf_L4  v a1 2000 0 0
set_option maxHeartbeats 4000000 in
set_option maxRecDepth 100000 in
theorem d_X8_hoursOf (l : Launch) (E : kq_T) (Z : km_Z) (v : Mm) (a1 : Int32) (hs : g_X8_hoursOf v a1 ≠ none) : km_I l E Z cntM yX8_hoursOf wsX8_hoursOf rmX8_hoursOf [.ref (Z.1 30 0), .int a1] v (fun r v1 => g_X8_hoursOf v a1 = some r ∧ v = v1) := by
  refine km_goI (cc := cX8_hoursOf) (maxL := 4) (by decide) rfl (Nat.le_of_ble_eq_true rfl) rfl rfl rfl ?_
  intro p e s m below meth c A ls Q C hK hw hl hret
  obtain ⟨hx, hb, hml, hown, hts, -, -, -⟩ := C
  have hown : s.vm.findClass RX8 = some m.cls := hown
  have hl : lv_has ls 4 [(0, .ref (Z.1 30 0)), (1, .int a1)] := hl
  have hF := g_X8_hoursOf.eq_1 v a1
  have loop4 : ∀ (n4 : Nat) (x2_4 : Int32) (x3_4 : Int32) (H : Heap) (locs : List Loc) (ls : Array Slot), g_X8_hoursOf v a1 = g_X8_hoursOf_L4  v a1 n4 x2_4 x3_4 → km_w E A s.heap [] Z cntM v H locs → lv_has ls 4 [(0, .ref (Z.1 30 0)), (1, .int a1), (2, .int x2_4), (3, .int x3_4)] → W p l e rmX8_hoursOf s m [.ref (Z.1 30 0), .int a1].toArray below meth c H locs 0 0 Q (F0 m 4 ls []) := by
    intro n4
    induction n4 with
    | zero => intro x2_4 x3_4 H locs ls hF hw hl; exact absurd (show g_X8_hoursOf v a1 = none from hF) hs
    | succ n4 ih4 =>
      intro x2_4 x3_4 H locs ls hF hw hl
      have hF := hF.trans (b_X8_hoursOf_L4.eq_1  (g_X8_hoursOf_L4  v a1 n4) v a1 x2_4 x3_4)
      refine lv_iload_n hx hb dX8_hoursOf_4 rfl (lv_at hl 3 rfl) ?_
      refine lv_bipush (v := 6) hx hb dX8_hoursOf_5 (by decide) ?_
      refine lv_icmp_ge (tgt := 41) hx hb dX8_hoursOf_7 (by decide) (fun c1 => ?_) (fun c1 => ?_)
      · skip
        have hF := hF.trans (if_pos c1)
        refine lv_iload_n hx hb dX8_hoursOf_41 rfl (lv_at hl 2 rfl) ?_
        exact hret _ _ _ _ _ _ hw dX8_hoursOf_42 ⟨hF, rfl⟩
      · skip
        have hF := hF.trans (if_neg c1)
        refine lv_iload_n hx hb dX8_hoursOf_10 rfl (lv_at hl 2 rfl) ?_
        refine lv_aload_n hx hb dX8_hoursOf_11 rfl (lv_at hl 0 rfl) ?_
        refine lv_iload_n hx hb dX8_hoursOf_12 rfl (lv_at hl 3 rfl) ?_
        refine lv_aload_n hx hb dX8_hoursOf_13 rfl (lv_at hl 0 rfl) ?_
        refine km_get (ci := 8) (C := RX8) (T := TX8) (N := 23) (t := 30) (i := 0) hx hb hts fi_X8_hoursOf_X8 hown hK hw (by decide) (by decide) rfl rfl 13 (by decide) (hts (.fieldLink RX8 25 "WrongWordModel" "now" "[I") ow_X8_hoursOf_25) rfl dX8_hoursOf_14 ?_
        refine lv_iconst (v := 5) hx hb dX8_hoursOf_17 (by decide) ?_
        refine km_iald (t := 36) (i := 0) hx hb hK hw (by decide) (by decide) rfl (by unfold vp_in; decide) dX8_hoursOf_18 ?_
        have hs2 : g_X8_guardOn v x3_4 (v 36 0 (Int32.toNatClampNeg 5)) ≠ none := fun q => hs (hF.trans (kb_n q _))
        refine km_cI (As := [.int x3_4, .int (v 36 0 (Int32.toNatClampNeg 5))]) (rest := [.int x2_4]) (n := 2) (q := (RX8, TX8, 23)) (ci := 8) (t := 30) (i := 0) ⟨hx, hb, hml, hown, hts⟩ (d_X8_guardOn l E Z v x3_4 (v 36 0 (Int32.toNatClampNeg 5)) hs2) gX8_hoursOf_X8_guardOn rfl hV_X8_guardOn ⟨Nat.le_of_ble_eq_true rfl, Nat.le_of_ble_eq_true rfl⟩ hK hw (by decide) (by decide) rfl rfl rfl hl.1 rfl (Nat.le_of_ble_eq_true rfl) dX8_hoursOf_19 rfl rfl (fun r3 v4 H locs hp hw => ?_)
        obtain ⟨hp, rfl⟩ := hp
        have hF := hF.trans (kb_some hp _)
        refine lv_iload_n hx hb dX8_hoursOf_22 rfl (lv_at hl 1 rfl) ?_
        refine lv_icmp_ne (tgt := 32) hx hb dX8_hoursOf_23 (by decide) (fun c5 => ?_) (fun c5 => ?_)
        · skip
          have hF := hF.trans (if_neg c5)
          refine lv_iconst (v := 0) hx hb dX8_hoursOf_32 (by decide) ?_
          refine lv_ior hx hb dX8_hoursOf_33 ?_
          refine lv_istore_n (lv' := [(2, .int (x2_4 ||| 0)), (0, .ref (Z.1 30 0)), (1, .int a1), (3, .int x3_4)]) hx hb dX8_hoursOf_34 rfl hl (by decide) rfl (fun ls hl => ?_)
          refine lv_iinc (v := x3_4 + 1) (lv' := [(3, .int (x3_4 + 1)), (2, .int (x2_4 ||| 0)), (0, .ref (Z.1 30 0)), (1, .int a1)]) hx hb dX8_hoursOf_35 hl (k := 3) rfl rfl (by decide) rfl (fun ls hl => ?_)
          refine lv_goto (tgt := 4) hx hb dX8_hoursOf_38 (by decide) ?_
          have hl := lv_sub (l' := [(0, .ref (Z.1 30 0)), (1, .int a1), (2, .int (x2_4 ||| 0)), (3, .int (x3_4 + 1))]) hl [2, 3, 1, 0] rfl
          exact ih4 (x2_4 ||| 0) (x3_4 + 1) _ _ _ hF hw hl
        · skip
          have hF := hF.trans (if_pos c5)
          refine lv_iconst (v := 1) hx hb dX8_hoursOf_26 (by decide) ?_
          refine lv_iload_n hx hb dX8_hoursOf_27 rfl (lv_at hl 3 rfl) ?_
          refine lv_ishl hx hb dX8_hoursOf_28 ?_
          refine lv_goto (tgt := 33) hx hb dX8_hoursOf_29 (by decide) ?_
          refine lv_ior hx hb dX8_hoursOf_33 ?_
          refine lv_topi (fun x6 ex6 => ?_)
          have hF := hF.trans (kb_some (congrArg some ex6.symm) _)
          refine lv_istore_n (lv' := [(2, .int x6), (0, .ref (Z.1 30 0)), (1, .int a1), (3, .int x3_4)]) hx hb dX8_hoursOf_34 rfl hl (by decide) rfl (fun ls hl => ?_)
          refine lv_iinc (v := x3_4 + 1) (lv' := [(3, .int (x3_4 + 1)), (2, .int x6), (0, .ref (Z.1 30 0)), (1, .int a1)]) hx hb dX8_hoursOf_35 hl (k := 3) rfl rfl (by decide) rfl (fun ls hl => ?_)
          refine lv_goto (tgt := 4) hx hb dX8_hoursOf_38 (by decide) ?_
          have hl := lv_sub (l' := [(0, .ref (Z.1 30 0)), (1, .int a1), (2, .int x6), (3, .int (x3_4 + 1))]) hl [2, 3, 1, 0] rfl
          exact ih4 x6 (x3_4 + 1) _ _ _ hF hw hl
  refine lv_iconst (v := 0) hx hb dX8_hoursOf_0 (by decide) ?_
  refine lv_istore_n (lv' := [(2, .int 0), (0, .ref (Z.1 30 0)), (1, .int a1)]) hx hb dX8_hoursOf_1 rfl hl (by decide) rfl (fun ls hl => ?_)
  refine lv_iconst (v := 0) hx hb dX8_hoursOf_2 (by decide) ?_
  refine lv_istore_n (lv' := [(3, .int 0), (2, .int 0), (0, .ref (Z.1 30 0)), (1, .int a1)]) hx hb dX8_hoursOf_3 rfl hl (by decide) rfl (fun ls hl => ?_)
  have hl := lv_sub (l' := [(0, .ref (Z.1 30 0)), (1, .int a1), (2, .int 0), (3, .int 0)]) hl [2, 3, 1, 0] rfl
  exact loop4 2000 0 0 _ _ _ hF hw hl
abbrev rmX8_guard : Room := { frames := 2, cells := 0, slots := 0, locals := 45 }
def g_X8_guard (v : Mm) (a1 : Int32) (a2 : Int32) : Option (Int32) := Option.bind (g_X8_isGuard v a1) (fun r2 => if r2 = 0 then (some ((-1000001))) else (if a2 = 0 then (if ((26 : Int32) + ((3 : Int32) * a1)) + 1 < 0 ∨ 65 ≤ Int32.toNatClampNeg (((26 : Int32) + ((3 : Int32) * a1)) + 1) then none else (some (v 36 0 (Int32.toNatClampNeg (((26 : Int32) + ((3 : Int32) * a1)) + 1))))) else (if a2 = 1 then (if ((26 : Int32) + ((3 : Int32) * a1)) + 2 < 0 ∨ 65 ≤ Int32.toNatClampNeg (((26 : Int32) + ((3 : Int32) * a1)) + 2) then none else (some (v 36 0 (Int32.toNatClampNeg (((26 : Int32) + ((3 : Int32) * a1)) + 2))))) else (if a2 = 2 then (some (((v 36 0 (Int32.toNatClampNeg 6)) >>> (a1 &&& 31)) &&& 1)) else (if a2 = 3 then (Option.bind (g_X8_hoursOf v a1) (fun r12 => some r12)) else (some ((-1000001))))))))
set_option maxHeartbeats 4000000 in
set_option maxRecDepth 100000 in
theorem d_X8_guard (l : Launch) (E : kq_T) (Z : km_Z) (v : Mm) (a1 : Int32) (a2 : Int32) (hs : g_X8_guard v a1 a2 ≠ none) : km_I l E Z cntM yX8_guard wsX8_guard rmX8_guard [.ref (Z.1 30 0), .int a1, .int a2] v (fun r v1 => g_X8_guard v a1 a2 = some r ∧ v = v1) := by
  refine km_goI (cc := cX8_guard) (maxL := 3) (by decide) rfl (Nat.le_of_ble_eq_true rfl) rfl rfl rfl ?_
  intro p e s m below meth c A ls Q C hK hw hl hret
  obtain ⟨hx, hb, hml, hown, hts, -, -, -⟩ := C
  have hown : s.vm.findClass RX8 = some m.cls := hown
  have hl : lv_has ls 3 [(0, .ref (Z.1 30 0)), (1, .int a1), (2, .int a2)] := hl
  have hF := g_X8_guard.eq_1 v a1 a2
  refine lv_aload_n hx hb dX8_guard_0 rfl (lv_at hl 0 rfl) ?_
  refine lv_iload_n hx hb dX8_guard_1 rfl (lv_at hl 1 rfl) ?_
  have hs1 : g_X8_isGuard v a1 ≠ none := fun q => hs (hF.trans (kb_n q _))
  refine km_cI (As := [.int a1]) (rest := []) (n := 1) (q := (RX8, TX8, 23)) (ci := 8) (t := 30) (i := 0) ⟨hx, hb, hml, hown, hts⟩ (d_X8_isGuard l E Z v a1 hs1) gX8_guard_X8_isGuard rfl hV_X8_isGuard ⟨Nat.le_of_ble_eq_true rfl, Nat.le_of_ble_eq_true rfl⟩ hK hw (by decide) (by decide) rfl rfl rfl hl.1 rfl (Nat.le_of_ble_eq_true rfl) dX8_guard_2 rfl rfl (fun r2 v3 H locs hp hw => ?_)
  obtain ⟨hp, hzr2⟩ := hp
  obtain ⟨hp, rfl⟩ := hp
  have hF := hF.trans (kb_some hp _)
  refine lv_if_ne (tgt := 11) hx hb dX8_guard_5 (by decide) (fun c4 => ?_) (fun c4 => ?_)
  · skip
    have hF := hF.trans (if_neg c4)
    refine lv_iload_n hx hb dX8_guard_11 rfl (lv_at hl 2 rfl) ?_
    by_cases c5 : a2 = 0
    · skip
      have hF := hF.trans (if_pos c5)
      refine lv_tableIn (tgt := 44) (off := 32) hx hb dX8_guard_12 (by rw [c5]; decide) (by rw [c5]; decide) (by rw [c5]; rfl) (by decide) ?_
      refine lv_aload_n hx hb dX8_guard_44 rfl (lv_at hl 0 rfl) ?_
      refine km_get (ci := 8) (C := RX8) (T := TX8) (N := 23) (t := 30) (i := 0) hx hb hts fi_X8_guard_X8 hown hK hw (by decide) (by decide) rfl rfl 13 (by decide) (hts (.fieldLink RX8 25 "WrongWordModel" "now" "[I") ow_X8_guard_25) rfl dX8_guard_45 ?_
      refine lv_bipush (v := 26) hx hb dX8_guard_48 (by decide) ?_
      refine lv_iconst (v := 3) hx hb dX8_guard_50 (by decide) ?_
      refine lv_iload_n hx hb dX8_guard_51 rfl (lv_at hl 1 rfl) ?_
      refine lv_imul hx hb dX8_guard_52 ?_
      refine lv_iadd hx hb dX8_guard_53 ?_
      refine lv_iconst (v := 1) hx hb dX8_guard_54 (by decide) ?_
      refine lv_iadd hx hb dX8_guard_55 ?_
      have hb6 : ¬ (((26 : Int32) + ((3 : Int32) * a1)) + 1 < 0 ∨ 65 ≤ Int32.toNatClampNeg (((26 : Int32) + ((3 : Int32) * a1)) + 1)) := fun q => hs (hF.trans (if_pos q))
      have hF := hF.trans (if_neg hb6)
      refine km_iald (t := 36) (i := 0) hx hb hK hw (by decide) (by decide) rfl hb6 dX8_guard_56 ?_
      exact hret _ _ _ _ _ _ hw dX8_guard_57 ⟨hF, rfl⟩
    have hF := hF.trans (if_neg c5)
    by_cases c7 : a2 = 1
    · skip
      have hF := hF.trans (if_pos c7)
      refine lv_tableIn (tgt := 58) (off := 46) hx hb dX8_guard_12 (by rw [c7]; decide) (by rw [c7]; decide) (by rw [c7]; rfl) (by decide) ?_
      refine lv_aload_n hx hb dX8_guard_58 rfl (lv_at hl 0 rfl) ?_
      refine km_get (ci := 8) (C := RX8) (T := TX8) (N := 23) (t := 30) (i := 0) hx hb hts fi_X8_guard_X8 hown hK hw (by decide) (by decide) rfl rfl 13 (by decide) (hts (.fieldLink RX8 25 "WrongWordModel" "now" "[I") ow_X8_guard_25) rfl dX8_guard_59 ?_
      refine lv_bipush (v := 26) hx hb dX8_guard_62 (by decide) ?_
      refine lv_iconst (v := 3) hx hb dX8_guard_64 (by decide) ?_
      refine lv_iload_n hx hb dX8_guard_65 rfl (lv_at hl 1 rfl) ?_
      refine lv_imul hx hb dX8_guard_66 ?_
      refine lv_iadd hx hb dX8_guard_67 ?_
      refine lv_iconst (v := 2) hx hb dX8_guard_68 (by decide) ?_
      refine lv_iadd hx hb dX8_guard_69 ?_
      have hb8 : ¬ (((26 : Int32) + ((3 : Int32) * a1)) + 2 < 0 ∨ 65 ≤ Int32.toNatClampNeg (((26 : Int32) + ((3 : Int32) * a1)) + 2)) := fun q => hs (hF.trans (if_pos q))
      have hF := hF.trans (if_neg hb8)
      refine km_iald (t := 36) (i := 0) hx hb hK hw (by decide) (by decide) rfl hb8 dX8_guard_70 ?_
      exact hret _ _ _ _ _ _ hw dX8_guard_71 ⟨hF, rfl⟩
    have hF := hF.trans (if_neg c7)
    by_cases c9 : a2 = 2
    · skip
      have hF := hF.trans (if_pos c9)
      refine lv_tableIn (tgt := 72) (off := 60) hx hb dX8_guard_12 (by rw [c9]; decide) (by rw [c9]; decide) (by rw [c9]; rfl) (by decide) ?_
      refine lv_aload_n hx hb dX8_guard_72 rfl (lv_at hl 0 rfl) ?_
      refine km_get (ci := 8) (C := RX8) (T := TX8) (N := 23) (t := 30) (i := 0) hx hb hts fi_X8_guard_X8 hown hK hw (by decide) (by decide) rfl rfl 13 (by decide) (hts (.fieldLink RX8 25 "WrongWordModel" "now" "[I") ow_X8_guard_25) rfl dX8_guard_73 ?_
      refine lv_bipush (v := 6) hx hb dX8_guard_76 (by decide) ?_
      refine km_iald (t := 36) (i := 0) hx hb hK hw (by decide) (by decide) rfl (by unfold vp_in; decide) dX8_guard_78 ?_
      refine lv_iload_n hx hb dX8_guard_79 rfl (lv_at hl 1 rfl) ?_
      refine lv_ishr hx hb dX8_guard_80 ?_
      refine lv_iconst (v := 1) hx hb dX8_guard_81 (by decide) ?_
      refine lv_iand hx hb dX8_guard_82 ?_
      exact hret _ _ _ _ _ _ hw dX8_guard_83 ⟨hF, rfl⟩
    have hF := hF.trans (if_neg c9)
    by_cases c10 : a2 = 3
    · skip
      have hF := hF.trans (if_pos c10)
      refine lv_tableIn (tgt := 84) (off := 72) hx hb dX8_guard_12 (by rw [c10]; decide) (by rw [c10]; decide) (by rw [c10]; rfl) (by decide) ?_
      refine lv_aload_n hx hb dX8_guard_84 rfl (lv_at hl 0 rfl) ?_
      refine lv_iload_n hx hb dX8_guard_85 rfl (lv_at hl 1 rfl) ?_
      have hs11 : g_X8_hoursOf v a1 ≠ none := fun q => hs (hF.trans (kb_n q _))
      refine km_cI (As := [.int a1]) (rest := []) (n := 1) (q := (RX8, TX8, 23)) (ci := 8) (t := 30) (i := 0) ⟨hx, hb, hml, hown, hts⟩ (d_X8_hoursOf l E Z v a1 hs11) gX8_guard_X8_hoursOf rfl hV_X8_hoursOf ⟨Nat.le_of_ble_eq_true rfl, Nat.le_of_ble_eq_true rfl⟩ hK hw (by decide) (by decide) rfl rfl rfl hl.1 rfl (Nat.le_of_ble_eq_true rfl) dX8_guard_86 rfl rfl (fun r12 v13 H locs hp hw => ?_)
      obtain ⟨hp, rfl⟩ := hp
      have hF := hF.trans (kb_some hp _)
      exact hret _ _ _ _ _ _ hw dX8_guard_89 ⟨hF, rfl⟩
    have hF := hF.trans (if_neg c10)
    have nc5 : ¬ Int32.toInt a2 = 0 := fun q => c5 (Int32.toInt_inj.mp (q.trans (by decide)))
    have nc7 : ¬ Int32.toInt a2 = 1 := fun q => c7 (Int32.toInt_inj.mp (q.trans (by decide)))
    have nc9 : ¬ Int32.toInt a2 = 2 := fun q => c9 (Int32.toInt_inj.mp (q.trans (by decide)))
    have nc10 : ¬ Int32.toInt a2 = 3 := fun q => c10 (Int32.toInt_inj.mp (q.trans (by decide)))
    refine lv_tableOut (tgt := 90) hx hb dX8_guard_12 (by omega) (by decide) ?_
    refine lv_ldc (v := (-1000001)) hx hb hown (hts (.constant RX8 64 (-1000001)) ow_X8_guard_64) dX8_guard_90 ?_
    exact hret _ _ _ _ _ _ hw dX8_guard_92 ⟨hF, rfl⟩
  · skip
    have hF := hF.trans (if_pos c4)
    refine lv_ldc (v := (-1000001)) hx hb hown (hts (.constant RX8 64 (-1000001)) ow_X8_guard_64) dX8_guard_8 ?_
    exact hret _ _ _ _ _ _ hw dX8_guard_10 ⟨hF, rfl⟩
abbrev rmX8_tried : Room := { frames := 1, cells := 0, slots := 0, locals := 22 }
def g_X8_tried (v : Mm) (a1 : Int32) (a2 : Int32) : Option (Int32) := Option.bind (g_X8_in v a1 0 ((v 36 0 (Int32.toNatClampNeg 7)) - 1)) (fun r2 => if r2 = 0 then (some ((-1000001))) else (Option.bind (g_X8_in v a2 0 2) (fun r6 => if r6 = 0 then (some ((-1000001))) else (if ((38 : Int32) + ((3 : Int32) * a1)) + a2 < 0 ∨ 65 ≤ Int32.toNatClampNeg (((38 : Int32) + ((3 : Int32) * a1)) + a2) then none else (Option.bind (some (v 36 0 (Int32.toNatClampNeg (((38 : Int32) + ((3 : Int32) * a1)) + a2)))) (fun x10 => if a2 = 1 then (if x10 = 0 then (some ((-1000000))) else (some (x10 - 1))) else (some x10)))))))
set_option maxHeartbeats 4000000 in
set_option maxRecDepth 100000 in
theorem d_X8_tried (l : Launch) (E : kq_T) (Z : km_Z) (v : Mm) (a1 : Int32) (a2 : Int32) (hs : g_X8_tried v a1 a2 ≠ none) : km_I l E Z cntM yX8_tried wsX8_tried rmX8_tried [.ref (Z.1 30 0), .int a1, .int a2] v (fun r v1 => g_X8_tried v a1 a2 = some r ∧ v = v1) := by
  refine km_goI (cc := cX8_tried) (maxL := 4) (by decide) rfl (Nat.le_of_ble_eq_true rfl) rfl rfl rfl ?_
  intro p e s m below meth c A ls Q C hK hw hl hret
  obtain ⟨hx, hb, hml, hown, hts, -, -, -⟩ := C
  have hown : s.vm.findClass RX8 = some m.cls := hown
  have hl : lv_has ls 4 [(0, .ref (Z.1 30 0)), (1, .int a1), (2, .int a2)] := hl
  have hF := g_X8_tried.eq_1 v a1 a2
  refine lv_iload_n hx hb dX8_tried_0 rfl (lv_at hl 1 rfl) ?_
  refine lv_iconst (v := 0) hx hb dX8_tried_1 (by decide) ?_
  refine lv_aload_n hx hb dX8_tried_2 rfl (lv_at hl 0 rfl) ?_
  refine km_get (ci := 8) (C := RX8) (T := TX8) (N := 23) (t := 30) (i := 0) hx hb hts fi_X8_tried_X8 hown hK hw (by decide) (by decide) rfl rfl 13 (by decide) (hts (.fieldLink RX8 25 "WrongWordModel" "now" "[I") ow_X8_tried_25) rfl dX8_tried_3 ?_
  refine lv_bipush (v := 7) hx hb dX8_tried_6 (by decide) ?_
  refine km_iald (t := 36) (i := 0) hx hb hK hw (by decide) (by decide) rfl (by unfold vp_in; decide) dX8_tried_8 ?_
  refine lv_iconst (v := 1) hx hb dX8_tried_9 (by decide) ?_
  refine lv_isub hx hb dX8_tried_10 ?_
  have hs1 : g_X8_in v a1 0 ((v 36 0 (Int32.toNatClampNeg 7)) - 1) ≠ none := fun q => hs (hF.trans (kb_n q _))
  refine km_cS (As := [.int a1, .int 0, .int ((v 36 0 (Int32.toNatClampNeg 7)) - 1)]) (rest := []) (n := 3) ⟨hx, hb, hml, hown, hts⟩ (d_X8_in l E Z v a1 0 ((v 36 0 (Int32.toNatClampNeg 7)) - 1) hs1) gX8_tried_X8_in rfl hV_X8_in ⟨Nat.le_of_ble_eq_true rfl, Nat.le_of_ble_eq_true rfl⟩ hK hw rfl hl.1 rfl (Nat.le_of_ble_eq_true rfl) dX8_tried_11 rfl rfl (fun r2 v3 H locs hp hw => ?_)
  obtain ⟨hp, hzr2⟩ := hp
  obtain ⟨hp, rfl⟩ := hp
  have hF := hF.trans (kb_some hp _)
  refine lv_if_eq (tgt := 26) hx hb dX8_tried_14 (by decide) (fun c4 => ?_) (fun c4 => ?_)
  · skip
    have hF := hF.trans (if_pos c4)
    refine lv_ldc (v := (-1000001)) hx hb hown (hts (.constant RX8 64 (-1000001)) ow_X8_tried_64) dX8_tried_26 ?_
    exact hret _ _ _ _ _ _ hw dX8_tried_28 ⟨hF, rfl⟩
  · skip
    have hF := hF.trans (if_neg c4)
    refine lv_iload_n hx hb dX8_tried_17 rfl (lv_at hl 2 rfl) ?_
    refine lv_iconst (v := 0) hx hb dX8_tried_18 (by decide) ?_
    refine lv_iconst (v := 2) hx hb dX8_tried_19 (by decide) ?_
    have hs5 : g_X8_in v a2 0 2 ≠ none := fun q => hs (hF.trans (kb_n q _))
    refine km_cS (As := [.int a2, .int 0, .int 2]) (rest := []) (n := 3) ⟨hx, hb, hml, hown, hts⟩ (d_X8_in l E Z v a2 0 2 hs5) gX8_tried_X8_in rfl hV_X8_in ⟨Nat.le_of_ble_eq_true rfl, Nat.le_of_ble_eq_true rfl⟩ hK hw rfl hl.1 rfl (Nat.le_of_ble_eq_true rfl) dX8_tried_20 rfl rfl (fun r6 v7 H locs hp hw => ?_)
    obtain ⟨hp, hzr6⟩ := hp
    obtain ⟨hp, rfl⟩ := hp
    have hF := hF.trans (kb_some hp _)
    refine lv_if_ne (tgt := 29) hx hb dX8_tried_23 (by decide) (fun c8 => ?_) (fun c8 => ?_)
    · skip
      have hF := hF.trans (if_neg c8)
      refine lv_aload_n hx hb dX8_tried_29 rfl (lv_at hl 0 rfl) ?_
      refine km_get (ci := 8) (C := RX8) (T := TX8) (N := 23) (t := 30) (i := 0) hx hb hts fi_X8_tried_X8 hown hK hw (by decide) (by decide) rfl rfl 13 (by decide) (hts (.fieldLink RX8 25 "WrongWordModel" "now" "[I") ow_X8_tried_25) rfl dX8_tried_30 ?_
      refine lv_bipush (v := 38) hx hb dX8_tried_33 (by decide) ?_
      refine lv_iconst (v := 3) hx hb dX8_tried_35 (by decide) ?_
      refine lv_iload_n hx hb dX8_tried_36 rfl (lv_at hl 1 rfl) ?_
      refine lv_imul hx hb dX8_tried_37 ?_
      refine lv_iadd hx hb dX8_tried_38 ?_
      refine lv_iload_n hx hb dX8_tried_39 rfl (lv_at hl 2 rfl) ?_
      refine lv_iadd hx hb dX8_tried_40 ?_
      have hb9 : ¬ (((38 : Int32) + ((3 : Int32) * a1)) + a2 < 0 ∨ 65 ≤ Int32.toNatClampNeg (((38 : Int32) + ((3 : Int32) * a1)) + a2)) := fun q => hs (hF.trans (if_pos q))
      have hF := hF.trans (if_neg hb9)
      refine km_iald (t := 36) (i := 0) hx hb hK hw (by decide) (by decide) rfl hb9 dX8_tried_41 ?_
      refine lv_topi (fun x10 ex10 => ?_)
      have hF := hF.trans (kb_some (congrArg some ex10.symm) _)
      refine lv_istore_n (lv' := [(3, .int x10), (0, .ref (Z.1 30 0)), (1, .int a1), (2, .int a2)]) hx hb dX8_tried_42 rfl hl (by decide) rfl (fun ls hl => ?_)
      refine lv_iload_n hx hb dX8_tried_43 rfl (lv_at hl 3 rfl) ?_
      refine lv_iconst (v := 1) hx hb dX8_tried_44 (by decide) ?_
      refine lv_icmp_eq (tgt := 52) hx hb dX8_tried_45 (by decide) (fun c11 => ?_) (fun c11 => ?_)
      · skip
        have hF := hF.trans (if_pos c11)
        refine lv_iload_n hx hb dX8_tried_52 rfl (lv_at hl 0 rfl) ?_
        refine lv_if_ne (tgt := 61) hx hb dX8_tried_53 (by decide) (fun c12 => ?_) (fun c12 => ?_)
        · skip
          have hF := hF.trans (if_neg c12)
          refine lv_iload_n hx hb dX8_tried_61 rfl (lv_at hl 0 rfl) ?_
          refine lv_iconst (v := 1) hx hb dX8_tried_62 (by decide) ?_
          refine lv_isub hx hb dX8_tried_63 ?_
          exact hret _ _ _ _ _ _ hw dX8_tried_64 ⟨hF, rfl⟩
        · skip
          have hF := hF.trans (if_pos c12)
          refine lv_ldc (v := (-1000000)) hx hb hown (hts (.constant RX8 50 (-1000000)) ow_X8_tried_50) dX8_tried_56 ?_
          refine lv_goto (tgt := 64) hx hb dX8_tried_58 (by decide) ?_
          exact hret _ _ _ _ _ _ hw dX8_tried_64 ⟨hF, rfl⟩
      · skip
        have hF := hF.trans (if_neg c11)
        refine lv_iload_n hx hb dX8_tried_48 rfl (lv_at hl 0 rfl) ?_
        refine lv_goto (tgt := 64) hx hb dX8_tried_49 (by decide) ?_
        exact hret _ _ _ _ _ _ hw dX8_tried_64 ⟨hF, rfl⟩
    · skip
      have hF := hF.trans (if_pos c8)
      refine lv_ldc (v := (-1000001)) hx hb hown (hts (.constant RX8 64 (-1000001)) ow_X8_tried_64) dX8_tried_26 ?_
      exact hret _ _ _ _ _ _ hw dX8_tried_28 ⟨hF, rfl⟩
