abbrev rmX0_forget : Room := { frames := 0, cells := 0, slots := 0, locals := 0 }
def g_X0_forget (v : Mm)  : Option (Mm) := Option.bind (some (up3 v 15 0 2 0)) (fun v1 => some v1)
set_option maxHeartbeats 4000000 in
set_option maxRecDepth 100000 in
theorem d_X0_forget (l : Launch) (E : kq_T) (Z : km_Z) (v : Mm) (hs : g_X0_forget v ≠ none) : km_V l E Z cntX yX0_forget wsX0_forget rmX0_forget [.ref (Z.1 15 0)] v (fun v1 => g_X0_forget v = some v1) := by
  refine km_goV (cc := cX0_forget) (maxL := 1) (by decide) rfl (Nat.le_of_ble_eq_true rfl) rfl rfl rfl ?_
  intro p e s m below meth c A ls Q C hK hw hl hret
  obtain ⟨hx, hb, hml, hown, hts, -, -, -⟩ := C
  have hown : s.vm.findClass RX0 = some m.cls := hown
  have hl : lv_has ls 1 [(0, .ref (Z.1 15 0))] := hl
  have hF := g_X0_forget.eq_1 v 
  refine lv_aload_n hx hb dX0_forget_0 rfl (lv_at hl 0 rfl) ?_
  refine lv_iconst (v := 0) hx hb dX0_forget_1 (by decide) ?_
  refine km_put (ci := 0) (C := RX0) (T := TX0) (N := 3) (t := 15) (i := 0) hx hb hts fi_X0_forget_X0 tyX0 tyX0_ok nmX0 hown hK hw (by decide) (by decide) rfl rfl 2 (by decide) (hts (.fieldLink RX0 18 "WrongWord$Acts" "kept" "I") ow_X0_forget_18) rfl (by decide +kernel) (Nat.le_of_ble_eq_true rfl) rfl dX0_forget_2 (fun H locs hw => ?_)
  obtain ⟨v1, ev1⟩ : ∃ z, z = up3 v 15 0 2 0 := ⟨_, rfl⟩
  rw [← ev1] at hw
  have hF := hF.trans (kb_some (congrArg some ev1.symm) _)
  exact hret _ _ _ _ _ hw dX0_forget_5 hF
abbrev rmX4_become : Room := { frames := 1, cells := 0, slots := 0, locals := 64 }
def g_X4_become (v : Mm) (i0 : Nat) (i1 : Nat) : Option (Mm) := Option.bind (some (up3 v 10 i0 4 (v 10 i1 4))) (fun v1 => Option.bind (some (up3 v1 10 i0 5 (v1 10 i1 5))) (fun v2 => Option.bind (some (up3 v2 10 i0 6 (v2 10 i1 6))) (fun v3 => Option.bind (some (up3 v3 10 i0 7 (v3 10 i1 7))) (fun v4 => Option.bind (some (cpy3 v4 11 i1 (Int32.toNatClampNeg 0) 11 i0 (Int32.toNatClampNeg 0) (Int32.toNatClampNeg 4))) (fun v5 => Option.bind (some (cpy3 v5 12 i1 (Int32.toNatClampNeg 0) 12 i0 (Int32.toNatClampNeg 0) (Int32.toNatClampNeg 9))) (fun v6 => Option.bind (some (cpy3 v6 13 i1 (Int32.toNatClampNeg 0) 13 i0 (Int32.toNatClampNeg 0) (Int32.toNatClampNeg 9))) (fun v7 => Option.bind (some (cpy3 v7 14 i1 (Int32.toNatClampNeg 0) 14 i0 (Int32.toNatClampNeg 0) (Int32.toNatClampNeg 9))) (fun v8 => some v8))))))))
set_option maxHeartbeats 4000000 in
set_option maxRecDepth 100000 in
theorem d_X4_become (l : Launch) (E : kq_T) (Z : km_Z) (v : Mm) (i0 : Nat) (h_i0 : i0 < cntX 10) (i1 : Nat) (h_i1 : i1 < cntX 10) (hs : g_X4_become v i0 i1 ≠ none) : km_V l E Z cntX yX4_become wsX4_become rmX4_become [.ref (Z.1 10 i0), .ref (Z.1 10 i1)] v (fun v1 => g_X4_become v i0 i1 = some v1) := by
  refine km_goV (cc := cX4_become) (maxL := 2) (by decide) rfl (Nat.le_of_ble_eq_true rfl) rfl rfl rfl ?_
  intro p e s m below meth c A ls Q C hK hw hl hret
  obtain ⟨hx, hb, hml, hown, hts, -, -, -⟩ := C
  have hown : s.vm.findClass RX4 = some m.cls := hown
  have hl : lv_has ls 2 [(0, .ref (Z.1 10 i0)), (1, .ref (Z.1 10 i1))] := hl
  have hF := g_X4_become.eq_1 v i0 i1
  refine lv_aload_n hx hb dX4_become_0 rfl (lv_at hl 0 rfl) ?_
  refine lv_aload_n hx hb dX4_become_1 rfl (lv_at hl 1 rfl) ?_
  refine km_get (ci := 4) (C := RX4) (T := TX4) (N := 8) (t := 10) (i := i1) hx hb hts fi_X4_become_X4 hown hK hw (by decide) h_i1 rfl rfl 4 (by decide) (hts (.fieldLink RX4 24 "WrongWord$Moment" "night" "I") ow_X4_become_24) rfl dX4_become_2 ?_
  refine km_put (ci := 4) (C := RX4) (T := TX4) (N := 8) (t := 10) (i := i0) hx hb hts fi_X4_become_X4 tyX4 tyX4_ok nmX4 hown hK hw (by decide) h_i0 rfl rfl 4 (by decide) (hts (.fieldLink RX4 24 "WrongWord$Moment" "night" "I") ow_X4_become_24) rfl (by decide +kernel) (Nat.le_of_ble_eq_true rfl) rfl dX4_become_5 (fun H locs hw => ?_)
  obtain ⟨v1, ev1⟩ : ∃ z, z = up3 v 10 i0 4 (v 10 i1 4) := ⟨_, rfl⟩
  rw [← ev1] at hw
  have hF := hF.trans (kb_some (congrArg some ev1.symm) _)
  refine lv_aload_n hx hb dX4_become_8 rfl (lv_at hl 0 rfl) ?_
  refine lv_aload_n hx hb dX4_become_9 rfl (lv_at hl 1 rfl) ?_
  refine km_get (ci := 4) (C := RX4) (T := TX4) (N := 8) (t := 10) (i := i1) hx hb hts fi_X4_become_X4 hown hK hw (by decide) h_i1 rfl rfl 5 (by decide) (hts (.fieldLink RX4 34 "WrongWord$Moment" "start" "I") ow_X4_become_34) rfl dX4_become_10 ?_
  refine km_put (ci := 4) (C := RX4) (T := TX4) (N := 8) (t := 10) (i := i0) hx hb hts fi_X4_become_X4 tyX4 tyX4_ok nmX4 hown hK hw (by decide) h_i0 rfl rfl 5 (by decide) (hts (.fieldLink RX4 34 "WrongWord$Moment" "start" "I") ow_X4_become_34) rfl (by decide +kernel) (Nat.le_of_ble_eq_true rfl) rfl dX4_become_13 (fun H locs hw => ?_)
  obtain ⟨v2, ev2⟩ : ∃ z, z = up3 v1 10 i0 5 (v1 10 i1 5) := ⟨_, rfl⟩
  rw [← ev2] at hw
  have hF := hF.trans (kb_some (congrArg some ev2.symm) _)
  refine lv_aload_n hx hb dX4_become_16 rfl (lv_at hl 0 rfl) ?_
  refine lv_aload_n hx hb dX4_become_17 rfl (lv_at hl 1 rfl) ?_
  refine km_get (ci := 4) (C := RX4) (T := TX4) (N := 8) (t := 10) (i := i1) hx hb hts fi_X4_become_X4 hown hK hw (by decide) h_i1 rfl rfl 6 (by decide) (hts (.fieldLink RX4 28 "WrongWord$Moment" "there" "I") ow_X4_become_28) rfl dX4_become_18 ?_
  refine km_put (ci := 4) (C := RX4) (T := TX4) (N := 8) (t := 10) (i := i0) hx hb hts fi_X4_become_X4 tyX4 tyX4_ok nmX4 hown hK hw (by decide) h_i0 rfl rfl 6 (by decide) (hts (.fieldLink RX4 28 "WrongWord$Moment" "there" "I") ow_X4_become_28) rfl (by decide +kernel) (Nat.le_of_ble_eq_true rfl) rfl dX4_become_21 (fun H locs hw => ?_)
  obtain ⟨v3, ev3⟩ : ∃ z, z = up3 v2 10 i0 6 (v2 10 i1 6) := ⟨_, rfl⟩
  rw [← ev3] at hw
  have hF := hF.trans (kb_some (congrArg some ev3.symm) _)
  refine lv_aload_n hx hb dX4_become_24 rfl (lv_at hl 0 rfl) ?_
  refine lv_aload_n hx hb dX4_become_25 rfl (lv_at hl 1 rfl) ?_
  refine km_get (ci := 4) (C := RX4) (T := TX4) (N := 8) (t := 10) (i := i1) hx hb hts fi_X4_become_X4 hown hK hw (by decide) h_i1 rfl rfl 7 (by decide) (hts (.fieldLink RX4 31 "WrongWord$Moment" "tries" "I") ow_X4_become_31) rfl dX4_become_26 ?_
  refine km_put (ci := 4) (C := RX4) (T := TX4) (N := 8) (t := 10) (i := i0) hx hb hts fi_X4_become_X4 tyX4 tyX4_ok nmX4 hown hK hw (by decide) h_i0 rfl rfl 7 (by decide) (hts (.fieldLink RX4 31 "WrongWord$Moment" "tries" "I") ow_X4_become_31) rfl (by decide +kernel) (Nat.le_of_ble_eq_true rfl) rfl dX4_become_29 (fun H locs hw => ?_)
  obtain ⟨v4, ev4⟩ : ∃ z, z = up3 v3 10 i0 7 (v3 10 i1 7) := ⟨_, rfl⟩
  rw [← ev4] at hw
  have hF := hF.trans (kb_some (congrArg some ev4.symm) _)
  refine lv_aload_n hx hb dX4_become_32 rfl (lv_at hl 1 rfl) ?_
  refine km_get (ci := 4) (C := RX4) (T := TX4) (N := 8) (t := 10) (i := i1) hx hb hts fi_X4_become_X4 hown hK hw (by decide) h_i1 rfl rfl 0 (by decide) (hts (.fieldLink RX4 9 "WrongWord$Moment" "took" "[I") ow_X4_become_9) rfl dX4_become_33 ?_
  refine lv_iconst (v := 0) hx hb dX4_become_36 (by decide) ?_
  refine lv_aload_n hx hb dX4_become_37 rfl (lv_at hl 0 rfl) ?_
  refine km_get (ci := 4) (C := RX4) (T := TX4) (N := 8) (t := 10) (i := i0) hx hb hts fi_X4_become_X4 hown hK hw (by decide) h_i0 rfl rfl 0 (by decide) (hts (.fieldLink RX4 9 "WrongWord$Moment" "took" "[I") ow_X4_become_9) rfl dX4_become_38 ?_
  refine lv_iconst (v := 0) hx hb dX4_become_41 (by decide) ?_
  refine lv_iconst (v := 4) hx hb dX4_become_42 (by decide) ?_
  refine km_copy (t1 := 11) (i1 := i1) (t2 := 11) (i2 := i0) (n0 := 4) (n1 := 4) hx hb (hml.trans hl.1.symm) hown (hts (.methodLink RX4 37 arraycopyName) (by decide +kernel)) (hts (.native arraycopyName) (by decide +kernel)) (hts (.static arraycopyName) (by decide +kernel)) (hts (.initialized "java/lang/System") (by decide +kernel)) hK hw (by decide) h_i1 (by decide) h_i0 (fun _ => rfl) (fun _ => rfl) (by decide) (by decide) (by decide) (by decide) (by decide) (Nat.le_of_ble_eq_true rfl) (Nat.le_of_ble_eq_true rfl) dX4_become_43 (fun H locs hw => ?_)
  obtain ⟨v5, ev5⟩ : ∃ z, z = cpy3 v4 11 i1 (Int32.toNatClampNeg 0) 11 i0 (Int32.toNatClampNeg 0) (Int32.toNatClampNeg 4) := ⟨_, rfl⟩
  rw [← ev5] at hw
  have hF := hF.trans (kb_some (congrArg some ev5.symm) _)
  refine lv_aload_n hx hb dX4_become_46 rfl (lv_at hl 1 rfl) ?_
  refine km_get (ci := 4) (C := RX4) (T := TX4) (N := 8) (t := 10) (i := i1) hx hb hts fi_X4_become_X4 hown hK hw (by decide) h_i1 rfl rfl 1 (by decide) (hts (.fieldLink RX4 15 "WrongWord$Moment" "triedWord" "[I") ow_X4_become_15) rfl dX4_become_47 ?_
  refine lv_iconst (v := 0) hx hb dX4_become_50 (by decide) ?_
  refine lv_aload_n hx hb dX4_become_51 rfl (lv_at hl 0 rfl) ?_
  refine km_get (ci := 4) (C := RX4) (T := TX4) (N := 8) (t := 10) (i := i0) hx hb hts fi_X4_become_X4 hown hK hw (by decide) h_i0 rfl rfl 1 (by decide) (hts (.fieldLink RX4 15 "WrongWord$Moment" "triedWord" "[I") ow_X4_become_15) rfl dX4_become_52 ?_
  refine lv_iconst (v := 0) hx hb dX4_become_55 (by decide) ?_
  refine lv_bipush (v := 9) hx hb dX4_become_56 (by decide) ?_
  refine km_copy (t1 := 12) (i1 := i1) (t2 := 12) (i2 := i0) (n0 := 9) (n1 := 9) hx hb (hml.trans hl.1.symm) hown (hts (.methodLink RX4 37 arraycopyName) (by decide +kernel)) (hts (.native arraycopyName) (by decide +kernel)) (hts (.static arraycopyName) (by decide +kernel)) (hts (.initialized "java/lang/System") (by decide +kernel)) hK hw (by decide) h_i1 (by decide) h_i0 (fun _ => rfl) (fun _ => rfl) (by decide) (by decide) (by decide) (by decide) (by decide) (Nat.le_of_ble_eq_true rfl) (Nat.le_of_ble_eq_true rfl) dX4_become_58 (fun H locs hw => ?_)
  obtain ⟨v6, ev6⟩ : ∃ z, z = cpy3 v5 12 i1 (Int32.toNatClampNeg 0) 12 i0 (Int32.toNatClampNeg 0) (Int32.toNatClampNeg 9) := ⟨_, rfl⟩
  rw [← ev6] at hw
  have hF := hF.trans (kb_some (congrArg some ev6.symm) _)
  refine lv_aload_n hx hb dX4_become_61 rfl (lv_at hl 1 rfl) ?_
  refine km_get (ci := 4) (C := RX4) (T := TX4) (N := 8) (t := 10) (i := i1) hx hb hts fi_X4_become_X4 hown hK hw (by decide) h_i1 rfl rfl 2 (by decide) (hts (.fieldLink RX4 18 "WrongWord$Moment" "triedGuard" "[I") ow_X4_become_18) rfl dX4_become_62 ?_
  refine lv_iconst (v := 0) hx hb dX4_become_65 (by decide) ?_
  refine lv_aload_n hx hb dX4_become_66 rfl (lv_at hl 0 rfl) ?_
  refine km_get (ci := 4) (C := RX4) (T := TX4) (N := 8) (t := 10) (i := i0) hx hb hts fi_X4_become_X4 hown hK hw (by decide) h_i0 rfl rfl 2 (by decide) (hts (.fieldLink RX4 18 "WrongWord$Moment" "triedGuard" "[I") ow_X4_become_18) rfl dX4_become_67 ?_
  refine lv_iconst (v := 0) hx hb dX4_become_70 (by decide) ?_
  refine lv_bipush (v := 9) hx hb dX4_become_71 (by decide) ?_
  refine km_copy (t1 := 13) (i1 := i1) (t2 := 13) (i2 := i0) (n0 := 9) (n1 := 9) hx hb (hml.trans hl.1.symm) hown (hts (.methodLink RX4 37 arraycopyName) (by decide +kernel)) (hts (.native arraycopyName) (by decide +kernel)) (hts (.static arraycopyName) (by decide +kernel)) (hts (.initialized "java/lang/System") (by decide +kernel)) hK hw (by decide) h_i1 (by decide) h_i0 (fun _ => rfl) (fun _ => rfl) (by decide) (by decide) (by decide) (by decide) (by decide) (Nat.le_of_ble_eq_true rfl) (Nat.le_of_ble_eq_true rfl) dX4_become_73 (fun H locs hw => ?_)
  obtain ⟨v7, ev7⟩ : ∃ z, z = cpy3 v6 13 i1 (Int32.toNatClampNeg 0) 13 i0 (Int32.toNatClampNeg 0) (Int32.toNatClampNeg 9) := ⟨_, rfl⟩
  rw [← ev7] at hw
  have hF := hF.trans (kb_some (congrArg some ev7.symm) _)
  refine lv_aload_n hx hb dX4_become_76 rfl (lv_at hl 1 rfl) ?_
  refine km_get (ci := 4) (C := RX4) (T := TX4) (N := 8) (t := 10) (i := i1) hx hb hts fi_X4_become_X4 hown hK hw (by decide) h_i1 rfl rfl 3 (by decide) (hts (.fieldLink RX4 21 "WrongWord$Moment" "triedTaken" "[I") ow_X4_become_21) rfl dX4_become_77 ?_
  refine lv_iconst (v := 0) hx hb dX4_become_80 (by decide) ?_
  refine lv_aload_n hx hb dX4_become_81 rfl (lv_at hl 0 rfl) ?_
  refine km_get (ci := 4) (C := RX4) (T := TX4) (N := 8) (t := 10) (i := i0) hx hb hts fi_X4_become_X4 hown hK hw (by decide) h_i0 rfl rfl 3 (by decide) (hts (.fieldLink RX4 21 "WrongWord$Moment" "triedTaken" "[I") ow_X4_become_21) rfl dX4_become_82 ?_
  refine lv_iconst (v := 0) hx hb dX4_become_85 (by decide) ?_
  refine lv_bipush (v := 9) hx hb dX4_become_86 (by decide) ?_
  refine km_copy (t1 := 14) (i1 := i1) (t2 := 14) (i2 := i0) (n0 := 9) (n1 := 9) hx hb (hml.trans hl.1.symm) hown (hts (.methodLink RX4 37 arraycopyName) (by decide +kernel)) (hts (.native arraycopyName) (by decide +kernel)) (hts (.static arraycopyName) (by decide +kernel)) (hts (.initialized "java/lang/System") (by decide +kernel)) hK hw (by decide) h_i1 (by decide) h_i0 (fun _ => rfl) (fun _ => rfl) (by decide) (by decide) (by decide) (by decide) (by decide) (Nat.le_of_ble_eq_true rfl) (Nat.le_of_ble_eq_true rfl) dX4_become_88 (fun H locs hw => ?_)
  obtain ⟨v8, ev8⟩ : ∃ z, z = cpy3 v7 14 i1 (Int32.toNatClampNeg 0) 14 i0 (Int32.toNatClampNeg 0) (Int32.toNatClampNeg 9) := ⟨_, rfl⟩
  rw [← ev8] at hw
  have hF := hF.trans (kb_some (congrArg some ev8.symm) _)
  exact hret _ _ _ _ _ hw dX4_become_91 hF
abbrev rmX0_keep : Room := { frames := 2, cells := 0, slots := 0, locals := 85 }
def g_X0_keep (v : Mm) (i1 : Nat) : Option (Mm) := if v 15 0 1 < 0 ∨ 24 ≤ Int32.toNatClampNeg (v 15 0 1) then none else (Option.bind (g_X4_become v (4 + (Int32.toNatClampNeg (v 15 0 1))) i1) (fun v4 => if 24 ≤ (v4 15 0 1) + 1 then (Option.bind (some (up3 v4 15 0 1 0)) (fun v6 => Option.bind (some (if 24 < (v6 15 0 2) + 1 then 24 else (v6 15 0 2) + 1)) (fun x7 => Option.bind (some (up3 v6 15 0 2 x7)) (fun v8 => some v8)))) else (Option.bind (some (up3 v4 15 0 1 ((v4 15 0 1) + 1))) (fun v9 => Option.bind (some (if 24 < (v9 15 0 2) + 1 then 24 else (v9 15 0 2) + 1)) (fun x10 => Option.bind (some (up3 v9 15 0 2 x10)) (fun v11 => some v11))))))
set_option maxHeartbeats 4000000 in
set_option maxRecDepth 100000 in
theorem d_X0_keep (l : Launch) (E : kq_T) (Z : km_Z) (v : Mm) (i1 : Nat) (h_i1 : i1 < cntX 10) (hs : g_X0_keep v i1 ≠ none) : km_V l E Z cntX yX0_keep wsX0_keep rmX0_keep [.ref (Z.1 15 0), .ref (Z.1 10 i1)] v (fun v1 => g_X0_keep v i1 = some v1) := by
  refine km_goV (cc := cX0_keep) (maxL := 2) (by decide) rfl (Nat.le_of_ble_eq_true rfl) rfl rfl rfl ?_
  intro p e s m below meth c A ls Q C hK hw hl hret
  obtain ⟨hx, hb, hml, hown, hts, -, -, -⟩ := C
  have hown : s.vm.findClass RX0 = some m.cls := hown
  have hl : lv_has ls 2 [(0, .ref (Z.1 15 0)), (1, .ref (Z.1 10 i1))] := hl
  have hF := g_X0_keep.eq_1 v i1
  refine lv_aload_n hx hb dX0_keep_0 rfl (lv_at hl 0 rfl) ?_
  refine km_get (ci := 0) (C := RX0) (T := TX0) (N := 3) (t := 15) (i := 0) hx hb hts fi_X0_keep_X0 hown hK hw (by decide) (by decide) rfl rfl 0 (by decide) (hts (.fieldLink RX0 11 "WrongWord$Acts" "ahead" "[LWrongWord$Moment;") ow_X0_keep_11) rfl dX0_keep_1 ?_
  refine lv_aload_n hx hb dX0_keep_4 rfl (lv_at hl 0 rfl) ?_
  refine km_get (ci := 0) (C := RX0) (T := TX0) (N := 3) (t := 15) (i := 0) hx hb hts fi_X0_keep_X0 hown hK hw (by decide) (by decide) rfl rfl 1 (by decide) (hts (.fieldLink RX0 22 "WrongWord$Acts" "at" "I") ow_X0_keep_22) rfl dX0_keep_5 ?_
  have hb1 : ¬ (v 15 0 1 < 0 ∨ 24 ≤ Int32.toNatClampNeg (v 15 0 1)) := fun q => hs (hF.trans (if_pos q))
  have hF := hF.trans (if_neg hb1)
  refine km_ring hx hb hK hw (by decide) hb1 dX0_keep_8 ?_
  refine lv_aload_n hx hb dX0_keep_9 rfl (lv_at hl 1 rfl) ?_
  have hs2 : g_X4_become v (4 + (Int32.toNatClampNeg (v 15 0 1))) i1 ≠ none := fun q => hs (hF.trans (kb_n q _))
  refine km_cV (As := [.ref (Z.1 10 i1)]) (rest := []) (n := 1) (q := (RX4, TX4, 8)) (ci := 4) (t := 10) (i := 4 + (Int32.toNatClampNeg (v 15 0 1))) ⟨hx, hb, hml, hown, hts⟩ (d_X4_become l E Z v (4 + (Int32.toNatClampNeg (v 15 0 1))) (show 4 + (Int32.toNatClampNeg (v 15 0 1)) < 28 from Nat.add_lt_add_left (Nat.not_le.mp fun h9 => hb1 (Or.inr h9)) 4) i1 h_i1 hs2) gX0_keep_X4_become rfl hV_X4_become ⟨Nat.le_of_ble_eq_true rfl, Nat.le_of_ble_eq_true rfl⟩ hK hw (by decide) (show 4 + (Int32.toNatClampNeg (v 15 0 1)) < 28 from Nat.add_lt_add_left (Nat.not_le.mp fun h9 => hb1 (Or.inr h9)) 4) rfl rfl rfl hl.1 rfl (Nat.le_of_ble_eq_true rfl) dX0_keep_10 rfl rfl (fun v4 H locs hp hw => ?_)
  have hF := hF.trans (kb_some hp _)
  refine lv_aload_n hx hb dX0_keep_13 rfl (lv_at hl 0 rfl) ?_
  refine lv_aload_n hx hb dX0_keep_14 rfl (lv_at hl 0 rfl) ?_
  refine km_get (ci := 0) (C := RX0) (T := TX0) (N := 3) (t := 15) (i := 0) hx hb hts fi_X0_keep_X0 hown hK hw (by decide) (by decide) rfl rfl 1 (by decide) (hts (.fieldLink RX0 22 "WrongWord$Acts" "at" "I") ow_X0_keep_22) rfl dX0_keep_15 ?_
  refine lv_iconst (v := 1) hx hb dX0_keep_18 (by decide) ?_
  refine lv_iadd hx hb dX0_keep_19 ?_
  refine lv_bipush (v := 24) hx hb dX0_keep_20 (by decide) ?_
  refine lv_icmp_ge (tgt := 34) hx hb dX0_keep_22 (by decide) (fun c5 => ?_) (fun c5 => ?_)
  · skip
    have hF := hF.trans (if_pos c5)
    refine lv_iconst (v := 0) hx hb dX0_keep_34 (by decide) ?_
    refine km_put (ci := 0) (C := RX0) (T := TX0) (N := 3) (t := 15) (i := 0) hx hb hts fi_X0_keep_X0 tyX0 tyX0_ok nmX0 hown hK hw (by decide) (by decide) rfl rfl 1 (by decide) (hts (.fieldLink RX0 22 "WrongWord$Acts" "at" "I") ow_X0_keep_22) rfl (by decide +kernel) (Nat.le_of_ble_eq_true rfl) rfl dX0_keep_35 (fun H locs hw => ?_)
    obtain ⟨v6, ev6⟩ : ∃ z, z = up3 v4 15 0 1 0 := ⟨_, rfl⟩
    rw [← ev6] at hw
    have hF := hF.trans (kb_some (congrArg some ev6.symm) _)
    refine lv_aload_n hx hb dX0_keep_38 rfl (lv_at hl 0 rfl) ?_
    refine lv_aload_n hx hb dX0_keep_39 rfl (lv_at hl 0 rfl) ?_
    refine km_get (ci := 0) (C := RX0) (T := TX0) (N := 3) (t := 15) (i := 0) hx hb hts fi_X0_keep_X0 hown hK hw (by decide) (by decide) rfl rfl 2 (by decide) (hts (.fieldLink RX0 18 "WrongWord$Acts" "kept" "I") ow_X0_keep_18) rfl dX0_keep_40 ?_
    refine lv_iconst (v := 1) hx hb dX0_keep_43 (by decide) ?_
    refine lv_iadd hx hb dX0_keep_44 ?_
    refine lv_bipush (v := 24) hx hb dX0_keep_45 (by decide) ?_
    refine va_mmin hx hb (hml.trans hl.1.symm) hown (hts (.methodLink RX0 29 Lib.Math.min.name) (by decide +kernel)) (hts (.static Lib.Math.min.name) (by decide +kernel)) (hts (.initialized "java/lang/Math") (by decide +kernel)) (hts (.code Lib.Math.min.name Lib.Math.min.code 2 (some .int)) (by decide +kernel)) (Nat.le_of_ble_eq_true rfl) (Nat.le_of_ble_eq_true rfl) (Nat.zero_le _) (Nat.zero_le _) dX0_keep_47 ?_
    refine lv_topi (fun x7 ex7 => ?_)
    have hF := hF.trans (kb_some (congrArg some ex7.symm) _)
    refine km_put (ci := 0) (C := RX0) (T := TX0) (N := 3) (t := 15) (i := 0) hx hb hts fi_X0_keep_X0 tyX0 tyX0_ok nmX0 hown hK hw (by decide) (by decide) rfl rfl 2 (by decide) (hts (.fieldLink RX0 18 "WrongWord$Acts" "kept" "I") ow_X0_keep_18) rfl (by decide +kernel) (Nat.le_of_ble_eq_true rfl) rfl dX0_keep_50 (fun H locs hw => ?_)
    obtain ⟨v8, ev8⟩ : ∃ z, z = up3 v6 15 0 2 x7 := ⟨_, rfl⟩
    rw [← ev8] at hw
    have hF := hF.trans (kb_some (congrArg some ev8.symm) _)
    exact hret _ _ _ _ _ hw dX0_keep_53 hF
  · skip
    have hF := hF.trans (if_neg c5)
    refine lv_aload_n hx hb dX0_keep_25 rfl (lv_at hl 0 rfl) ?_
    refine km_get (ci := 0) (C := RX0) (T := TX0) (N := 3) (t := 15) (i := 0) hx hb hts fi_X0_keep_X0 hown hK hw (by decide) (by decide) rfl rfl 1 (by decide) (hts (.fieldLink RX0 22 "WrongWord$Acts" "at" "I") ow_X0_keep_22) rfl dX0_keep_26 ?_
    refine lv_iconst (v := 1) hx hb dX0_keep_29 (by decide) ?_
    refine lv_iadd hx hb dX0_keep_30 ?_
    refine lv_goto (tgt := 35) hx hb dX0_keep_31 (by decide) ?_
    refine km_put (ci := 0) (C := RX0) (T := TX0) (N := 3) (t := 15) (i := 0) hx hb hts fi_X0_keep_X0 tyX0 tyX0_ok nmX0 hown hK hw (by decide) (by decide) rfl rfl 1 (by decide) (hts (.fieldLink RX0 22 "WrongWord$Acts" "at" "I") ow_X0_keep_22) rfl (by decide +kernel) (Nat.le_of_ble_eq_true rfl) rfl dX0_keep_35 (fun H locs hw => ?_)
    obtain ⟨v9, ev9⟩ : ∃ z, z = up3 v4 15 0 1 ((v4 15 0 1) + 1) := ⟨_, rfl⟩
    rw [← ev9] at hw
    have hF := hF.trans (kb_some (congrArg some ev9.symm) _)
    refine lv_aload_n hx hb dX0_keep_38 rfl (lv_at hl 0 rfl) ?_
    refine lv_aload_n hx hb dX0_keep_39 rfl (lv_at hl 0 rfl) ?_
    refine km_get (ci := 0) (C := RX0) (T := TX0) (N := 3) (t := 15) (i := 0) hx hb hts fi_X0_keep_X0 hown hK hw (by decide) (by decide) rfl rfl 2 (by decide) (hts (.fieldLink RX0 18 "WrongWord$Acts" "kept" "I") ow_X0_keep_18) rfl dX0_keep_40 ?_
    refine lv_iconst (v := 1) hx hb dX0_keep_43 (by decide) ?_
    refine lv_iadd hx hb dX0_keep_44 ?_
    refine lv_bipush (v := 24) hx hb dX0_keep_45 (by decide) ?_
    refine va_mmin hx hb (hml.trans hl.1.symm) hown (hts (.methodLink RX0 29 Lib.Math.min.name) (by decide +kernel)) (hts (.static Lib.Math.min.name) (by decide +kernel)) (hts (.initialized "java/lang/Math") (by decide +kernel)) (hts (.code Lib.Math.min.name Lib.Math.min.code 2 (some .int)) (by decide +kernel)) (Nat.le_of_ble_eq_true rfl) (Nat.le_of_ble_eq_true rfl) (Nat.zero_le _) (Nat.zero_le _) dX0_keep_47 ?_
    refine lv_topi (fun x10 ex10 => ?_)
    have hF := hF.trans (kb_some (congrArg some ex10.symm) _)
    refine km_put (ci := 0) (C := RX0) (T := TX0) (N := 3) (t := 15) (i := 0) hx hb hts fi_X0_keep_X0 tyX0 tyX0_ok nmX0 hown hK hw (by decide) (by decide) rfl rfl 2 (by decide) (hts (.fieldLink RX0 18 "WrongWord$Acts" "kept" "I") ow_X0_keep_18) rfl (by decide +kernel) (Nat.le_of_ble_eq_true rfl) rfl dX0_keep_50 (fun H locs hw => ?_)
    obtain ⟨v11, ev11⟩ : ∃ z, z = up3 v9 15 0 2 x10 := ⟨_, rfl⟩
    rw [← ev11] at hw
    have hF := hF.trans (kb_some (congrArg some ev11.symm) _)
    exact hret _ _ _ _ _ hw dX0_keep_53 hF
abbrev rmX0_takeBack : Room := { frames := 2, cells := 0, slots := 0, locals := 85 }
def g_X0_takeBack (v : Mm) (i1 : Nat) : Option (Int32 × Mm) := if v 15 0 2 = 0 then (some (0, v)) else (if v 15 0 1 ≤ 0 then (Option.bind (some (up3 v 15 0 1 23)) (fun v3 => Option.bind (some (up3 v3 15 0 2 ((v3 15 0 2) - 1))) (fun v4 => if v4 15 0 1 < 0 ∨ 24 ≤ Int32.toNatClampNeg (v4 15 0 1) then none else (Option.bind (g_X4_become v4 i1 (4 + (Int32.toNatClampNeg (v4 15 0 1)))) (fun v8 => some (1, v8)))))) else (Option.bind (some (up3 v 15 0 1 ((v 15 0 1) - 1))) (fun v9 => Option.bind (some (up3 v9 15 0 2 ((v9 15 0 2) - 1))) (fun v10 => if v10 15 0 1 < 0 ∨ 24 ≤ Int32.toNatClampNeg (v10 15 0 1) then none else (Option.bind (g_X4_become v10 i1 (4 + (Int32.toNatClampNeg (v10 15 0 1)))) (fun v14 => some (1, v14)))))))
set_option maxHeartbeats 4000000 in
set_option maxRecDepth 100000 in
theorem d_X0_takeBack (l : Launch) (E : kq_T) (Z : km_Z) (v : Mm) (i1 : Nat) (h_i1 : i1 < cntX 10) (hs : g_X0_takeBack v i1 ≠ none) : km_I l E Z cntX yX0_takeBack wsX0_takeBack rmX0_takeBack [.ref (Z.1 15 0), .ref (Z.1 10 i1)] v (fun r v1 => (g_X0_takeBack v i1 = some (r, v1)) ∧ (r = 0 ∨ r = 1)) := by
  refine km_goZ (cc := cX0_takeBack) (maxL := 2) (post := fun r v1 => g_X0_takeBack v i1 = some (r, v1)) (by decide) rfl (Nat.le_of_ble_eq_true rfl) rfl rfl rfl ?_
  intro p e s m below meth c A ls Q C hK hw hl hret
  obtain ⟨hx, hb, hml, hown, hts, -, -, -⟩ := C
  have hown : s.vm.findClass RX0 = some m.cls := hown
  have hl : lv_has ls 2 [(0, .ref (Z.1 15 0)), (1, .ref (Z.1 10 i1))] := hl
  have hF := g_X0_takeBack.eq_1 v i1
  refine lv_aload_n hx hb dX0_takeBack_0 rfl (lv_at hl 0 rfl) ?_
  refine km_get (ci := 0) (C := RX0) (T := TX0) (N := 3) (t := 15) (i := 0) hx hb hts fi_X0_takeBack_X0 hown hK hw (by decide) (by decide) rfl rfl 2 (by decide) (hts (.fieldLink RX0 18 "WrongWord$Acts" "kept" "I") ow_X0_takeBack_18) rfl dX0_takeBack_1 ?_
  refine lv_if_ne (tgt := 9) hx hb dX0_takeBack_4 (by decide) (fun c1 => ?_) (fun c1 => ?_)
  · skip
    have hF := hF.trans (if_neg c1)
    refine lv_aload_n hx hb dX0_takeBack_9 rfl (lv_at hl 0 rfl) ?_
    refine lv_aload_n hx hb dX0_takeBack_10 rfl (lv_at hl 0 rfl) ?_
    refine km_get (ci := 0) (C := RX0) (T := TX0) (N := 3) (t := 15) (i := 0) hx hb hts fi_X0_takeBack_X0 hown hK hw (by decide) (by decide) rfl rfl 1 (by decide) (hts (.fieldLink RX0 22 "WrongWord$Acts" "at" "I") ow_X0_takeBack_22) rfl dX0_takeBack_11 ?_
    refine lv_if_le (tgt := 26) hx hb dX0_takeBack_14 (by decide) (fun c2 => ?_) (fun c2 => ?_)
    · skip
      have hF := hF.trans (if_pos c2)
      refine lv_bipush (v := 23) hx hb dX0_takeBack_26 (by decide) ?_
      refine km_put (ci := 0) (C := RX0) (T := TX0) (N := 3) (t := 15) (i := 0) hx hb hts fi_X0_takeBack_X0 tyX0 tyX0_ok nmX0 hown hK hw (by decide) (by decide) rfl rfl 1 (by decide) (hts (.fieldLink RX0 22 "WrongWord$Acts" "at" "I") ow_X0_takeBack_22) rfl (by decide +kernel) (Nat.le_of_ble_eq_true rfl) rfl dX0_takeBack_28 (fun H locs hw => ?_)
      obtain ⟨v3, ev3⟩ : ∃ z, z = up3 v 15 0 1 23 := ⟨_, rfl⟩
      rw [← ev3] at hw
      have hF := hF.trans (kb_some (congrArg some ev3.symm) _)
      refine lv_aload_n hx hb dX0_takeBack_31 rfl (lv_at hl 0 rfl) ?_
      refine lv_dup hx hb dX0_takeBack_32 rfl ?_
      refine km_get (ci := 0) (C := RX0) (T := TX0) (N := 3) (t := 15) (i := 0) hx hb hts fi_X0_takeBack_X0 hown hK hw (by decide) (by decide) rfl rfl 2 (by decide) (hts (.fieldLink RX0 18 "WrongWord$Acts" "kept" "I") ow_X0_takeBack_18) rfl dX0_takeBack_33 ?_
      refine lv_iconst (v := 1) hx hb dX0_takeBack_36 (by decide) ?_
      refine lv_isub hx hb dX0_takeBack_37 ?_
      refine km_put (ci := 0) (C := RX0) (T := TX0) (N := 3) (t := 15) (i := 0) hx hb hts fi_X0_takeBack_X0 tyX0 tyX0_ok nmX0 hown hK hw (by decide) (by decide) rfl rfl 2 (by decide) (hts (.fieldLink RX0 18 "WrongWord$Acts" "kept" "I") ow_X0_takeBack_18) rfl (by decide +kernel) (Nat.le_of_ble_eq_true rfl) rfl dX0_takeBack_38 (fun H locs hw => ?_)
      obtain ⟨v4, ev4⟩ : ∃ z, z = up3 v3 15 0 2 ((v3 15 0 2) - 1) := ⟨_, rfl⟩
      rw [← ev4] at hw
      have hF := hF.trans (kb_some (congrArg some ev4.symm) _)
      refine lv_aload_n hx hb dX0_takeBack_41 rfl (lv_at hl 1 rfl) ?_
      refine lv_aload_n hx hb dX0_takeBack_42 rfl (lv_at hl 0 rfl) ?_
      refine km_get (ci := 0) (C := RX0) (T := TX0) (N := 3) (t := 15) (i := 0) hx hb hts fi_X0_takeBack_X0 hown hK hw (by decide) (by decide) rfl rfl 0 (by decide) (hts (.fieldLink RX0 11 "WrongWord$Acts" "ahead" "[LWrongWord$Moment;") ow_X0_takeBack_11) rfl dX0_takeBack_43 ?_
      refine lv_aload_n hx hb dX0_takeBack_46 rfl (lv_at hl 0 rfl) ?_
      refine km_get (ci := 0) (C := RX0) (T := TX0) (N := 3) (t := 15) (i := 0) hx hb hts fi_X0_takeBack_X0 hown hK hw (by decide) (by decide) rfl rfl 1 (by decide) (hts (.fieldLink RX0 22 "WrongWord$Acts" "at" "I") ow_X0_takeBack_22) rfl dX0_takeBack_47 ?_
      have hb5 : ¬ (v4 15 0 1 < 0 ∨ 24 ≤ Int32.toNatClampNeg (v4 15 0 1)) := fun q => hs (hF.trans (if_pos q))
      have hF := hF.trans (if_neg hb5)
      refine km_ring hx hb hK hw (by decide) hb5 dX0_takeBack_50 ?_
      have hs6 : g_X4_become v4 i1 (4 + (Int32.toNatClampNeg (v4 15 0 1))) ≠ none := fun q => hs (hF.trans (kb_n q _))
      refine km_cV (As := [.ref (Z.1 10 (4 + (Int32.toNatClampNeg (v4 15 0 1))))]) (rest := []) (n := 1) (q := (RX4, TX4, 8)) (ci := 4) (t := 10) (i := i1) ⟨hx, hb, hml, hown, hts⟩ (d_X4_become l E Z v4 i1 h_i1 (4 + (Int32.toNatClampNeg (v4 15 0 1))) (show 4 + (Int32.toNatClampNeg (v4 15 0 1)) < 28 from Nat.add_lt_add_left (Nat.not_le.mp fun h9 => hb5 (Or.inr h9)) 4) hs6) gX0_takeBack_X4_become rfl hV_X4_become ⟨Nat.le_of_ble_eq_true rfl, Nat.le_of_ble_eq_true rfl⟩ hK hw (by decide) h_i1 rfl rfl rfl hl.1 rfl (Nat.le_of_ble_eq_true rfl) dX0_takeBack_51 rfl rfl (fun v8 H locs hp hw => ?_)
      have hF := hF.trans (kb_some hp _)
      refine lv_iconst (v := 1) hx hb dX0_takeBack_54 (by decide) ?_
      exact hret _ _ _ _ _ _ hw dX0_takeBack_55 (Or.inr rfl) hF
    · skip
      have hF := hF.trans (if_neg c2)
      refine lv_aload_n hx hb dX0_takeBack_17 rfl (lv_at hl 0 rfl) ?_
      refine km_get (ci := 0) (C := RX0) (T := TX0) (N := 3) (t := 15) (i := 0) hx hb hts fi_X0_takeBack_X0 hown hK hw (by decide) (by decide) rfl rfl 1 (by decide) (hts (.fieldLink RX0 22 "WrongWord$Acts" "at" "I") ow_X0_takeBack_22) rfl dX0_takeBack_18 ?_
      refine lv_iconst (v := 1) hx hb dX0_takeBack_21 (by decide) ?_
      refine lv_isub hx hb dX0_takeBack_22 ?_
      refine lv_goto (tgt := 28) hx hb dX0_takeBack_23 (by decide) ?_
      refine km_put (ci := 0) (C := RX0) (T := TX0) (N := 3) (t := 15) (i := 0) hx hb hts fi_X0_takeBack_X0 tyX0 tyX0_ok nmX0 hown hK hw (by decide) (by decide) rfl rfl 1 (by decide) (hts (.fieldLink RX0 22 "WrongWord$Acts" "at" "I") ow_X0_takeBack_22) rfl (by decide +kernel) (Nat.le_of_ble_eq_true rfl) rfl dX0_takeBack_28 (fun H locs hw => ?_)
      obtain ⟨v9, ev9⟩ : ∃ z, z = up3 v 15 0 1 ((v 15 0 1) - 1) := ⟨_, rfl⟩
      rw [← ev9] at hw
      have hF := hF.trans (kb_some (congrArg some ev9.symm) _)
      refine lv_aload_n hx hb dX0_takeBack_31 rfl (lv_at hl 0 rfl) ?_
      refine lv_dup hx hb dX0_takeBack_32 rfl ?_
      refine km_get (ci := 0) (C := RX0) (T := TX0) (N := 3) (t := 15) (i := 0) hx hb hts fi_X0_takeBack_X0 hown hK hw (by decide) (by decide) rfl rfl 2 (by decide) (hts (.fieldLink RX0 18 "WrongWord$Acts" "kept" "I") ow_X0_takeBack_18) rfl dX0_takeBack_33 ?_
      refine lv_iconst (v := 1) hx hb dX0_takeBack_36 (by decide) ?_
      refine lv_isub hx hb dX0_takeBack_37 ?_
      refine km_put (ci := 0) (C := RX0) (T := TX0) (N := 3) (t := 15) (i := 0) hx hb hts fi_X0_takeBack_X0 tyX0 tyX0_ok nmX0 hown hK hw (by decide) (by decide) rfl rfl 2 (by decide) (hts (.fieldLink RX0 18 "WrongWord$Acts" "kept" "I") ow_X0_takeBack_18) rfl (by decide +kernel) (Nat.le_of_ble_eq_true rfl) rfl dX0_takeBack_38 (fun H locs hw => ?_)
      obtain ⟨v10, ev10⟩ : ∃ z, z = up3 v9 15 0 2 ((v9 15 0 2) - 1) := ⟨_, rfl⟩
      rw [← ev10] at hw
      have hF := hF.trans (kb_some (congrArg some ev10.symm) _)
      refine lv_aload_n hx hb dX0_takeBack_41 rfl (lv_at hl 1 rfl) ?_
      refine lv_aload_n hx hb dX0_takeBack_42 rfl (lv_at hl 0 rfl) ?_
      refine km_get (ci := 0) (C := RX0) (T := TX0) (N := 3) (t := 15) (i := 0) hx hb hts fi_X0_takeBack_X0 hown hK hw (by decide) (by decide) rfl rfl 0 (by decide) (hts (.fieldLink RX0 11 "WrongWord$Acts" "ahead" "[LWrongWord$Moment;") ow_X0_takeBack_11) rfl dX0_takeBack_43 ?_
      refine lv_aload_n hx hb dX0_takeBack_46 rfl (lv_at hl 0 rfl) ?_
      refine km_get (ci := 0) (C := RX0) (T := TX0) (N := 3) (t := 15) (i := 0) hx hb hts fi_X0_takeBack_X0 hown hK hw (by decide) (by decide) rfl rfl 1 (by decide) (hts (.fieldLink RX0 22 "WrongWord$Acts" "at" "I") ow_X0_takeBack_22) rfl dX0_takeBack_47 ?_
      have hb11 : ¬ (v10 15 0 1 < 0 ∨ 24 ≤ Int32.toNatClampNeg (v10 15 0 1)) := fun q => hs (hF.trans (if_pos q))
      have hF := hF.trans (if_neg hb11)
      refine km_ring hx hb hK hw (by decide) hb11 dX0_takeBack_50 ?_
      have hs12 : g_X4_become v10 i1 (4 + (Int32.toNatClampNeg (v10 15 0 1))) ≠ none := fun q => hs (hF.trans (kb_n q _))
      refine km_cV (As := [.ref (Z.1 10 (4 + (Int32.toNatClampNeg (v10 15 0 1))))]) (rest := []) (n := 1) (q := (RX4, TX4, 8)) (ci := 4) (t := 10) (i := i1) ⟨hx, hb, hml, hown, hts⟩ (d_X4_become l E Z v10 i1 h_i1 (4 + (Int32.toNatClampNeg (v10 15 0 1))) (show 4 + (Int32.toNatClampNeg (v10 15 0 1)) < 28 from Nat.add_lt_add_left (Nat.not_le.mp fun h9 => hb11 (Or.inr h9)) 4) hs12) gX0_takeBack_X4_become rfl hV_X4_become ⟨Nat.le_of_ble_eq_true rfl, Nat.le_of_ble_eq_true rfl⟩ hK hw (by decide) h_i1 rfl rfl rfl hl.1 rfl (Nat.le_of_ble_eq_true rfl) dX0_takeBack_51 rfl rfl (fun v14 H locs hp hw => ?_)
      have hF := hF.trans (kb_some hp _)
      refine lv_iconst (v := 1) hx hb dX0_takeBack_54 (by decide) ?_
      exact hret _ _ _ _ _ _ hw dX0_takeBack_55 (Or.inr rfl) hF
  · skip
    have hF := hF.trans (if_pos c1)
    refine lv_iconst (v := 0) hx hb dX0_takeBack_7 (by decide) ?_
    exact hret _ _ _ _ _ _ hw dX0_takeBack_8 (Or.inl rfl) hF
abbrev rmX1_isA : Room := { frames := 0, cells := 0, slots := 0, locals := 0 }
def b_X1_isA_L4  (rec4 : Int32 → Int32 → Option (Int32)) (v : Mm) (a0 : Int32) (a1 : Int32) (x2_4 : Int32) (x3_4 : Int32) : Option (Int32) := if 5 < x3_4 then (some 0) else (if x2_4 < 0 then (some 0) else (if 5 < x2_4 then (some 0) else (if x2_4 = a1 then (some 1) else (if x2_4 < 0 ∨ 6 ≤ Int32.toNatClampNeg x2_4 then none else (rec4 (st_above (Int32.toNatClampNeg x2_4)) (x3_4 + 1))))))
def g_X1_isA_L4  (v : Mm) (a0 : Int32) (a1 : Int32) : Nat → Int32 → Int32 → Option (Int32)
  | 0 => fun _ _ => none
  | n + 1 => b_X1_isA_L4  (g_X1_isA_L4  v a0 a1 n) v a0 a1
def g_X1_isA (v : Mm) (a0 : Int32) (a1 : Int32) : Option (Int32) := g_X1_isA_L4  v a0 a1 2000 a0 0
set_option maxHeartbeats 4000000 in
set_option maxRecDepth 100000 in
theorem d_X1_isA (l : Launch) (E : kq_T) (Z : km_Z) (v : Mm) (a0 : Int32) (a1 : Int32) (hs : g_X1_isA v a0 a1 ≠ none) : km_I l E Z cntX yX1_isA wsX1_isA rmX1_isA [.int a0, .int a1] v (fun r v1 => (g_X1_isA v a0 a1 = some r ∧ v = v1) ∧ (r = 0 ∨ r = 1)) := by
  refine km_goZ (cc := cX1_isA) (maxL := 4) (post := fun r v1 => g_X1_isA v a0 a1 = some r ∧ v = v1) (by decide) rfl (Nat.le_of_ble_eq_true rfl) rfl rfl rfl ?_
  intro p e s m below meth c A ls Q C hK hw hl hret
  obtain ⟨hx, hb, hml, hown, hts, -, -, -⟩ := C
  have hown : s.vm.findClass RX1 = some m.cls := hown
  have hl : lv_has ls 4 [(0, .int a0), (1, .int a1)] := hl
  have hF := g_X1_isA.eq_1 v a0 a1
  have loop4 : ∀ (n4 : Nat) (x2_4 : Int32) (x3_4 : Int32) (H : Heap) (locs : List Loc) (ls : Array Slot), g_X1_isA v a0 a1 = g_X1_isA_L4  v a0 a1 n4 x2_4 x3_4 → km_w E A s.heap [] Z cntX v H locs → lv_has ls 4 [(0, .int a0), (1, .int a1), (2, .int x2_4), (3, .int x3_4)] → W p l e rmX1_isA s m [.int a0, .int a1].toArray below meth c H locs 0 0 Q (F0 m 4 ls []) := by
    intro n4
    induction n4 with
    | zero => intro x2_4 x3_4 H locs ls hF hw hl; exact absurd (show g_X1_isA v a0 a1 = none from hF) hs
    | succ n4 ih4 =>
      intro x2_4 x3_4 H locs ls hF hw hl
      have hF := hF.trans (b_X1_isA_L4.eq_1  (g_X1_isA_L4  v a0 a1 n4) v a0 a1 x2_4 x3_4)
      refine lv_iload_n hx hb dX1_isA_4 rfl (lv_at hl 3 rfl) ?_
      refine lv_iconst (v := 5) hx hb dX1_isA_5 (by decide) ?_
      refine lv_icmp_gt (tgt := 37) hx hb dX1_isA_6 (by decide) (fun c1 => ?_) (fun c1 => ?_)
      · skip
        have hF := hF.trans (if_pos c1)
        refine lv_iconst (v := 0) hx hb dX1_isA_37 (by decide) ?_
        exact hret _ _ _ _ _ _ hw dX1_isA_38 (Or.inl rfl) ⟨hF, rfl⟩
      · skip
        have hF := hF.trans (if_neg c1)
        refine lv_iload_n hx hb dX1_isA_9 rfl (lv_at hl 2 rfl) ?_
        refine lv_if_lt (tgt := 37) hx hb dX1_isA_10 (by decide) (fun c2 => ?_) (fun c2 => ?_)
        · skip
          have hF := hF.trans (if_pos c2)
          refine lv_iconst (v := 0) hx hb dX1_isA_37 (by decide) ?_
          exact hret _ _ _ _ _ _ hw dX1_isA_38 (Or.inl rfl) ⟨hF, rfl⟩
        · skip
          have hF := hF.trans (if_neg c2)
          refine lv_iload_n hx hb dX1_isA_13 rfl (lv_at hl 2 rfl) ?_
          refine lv_iconst (v := 5) hx hb dX1_isA_14 (by decide) ?_
          refine lv_icmp_gt (tgt := 37) hx hb dX1_isA_15 (by decide) (fun c3 => ?_) (fun c3 => ?_)
          · skip
            have hF := hF.trans (if_pos c3)
            refine lv_iconst (v := 0) hx hb dX1_isA_37 (by decide) ?_
            exact hret _ _ _ _ _ _ hw dX1_isA_38 (Or.inl rfl) ⟨hF, rfl⟩
          · skip
            have hF := hF.trans (if_neg c3)
            refine lv_iload_n hx hb dX1_isA_18 rfl (lv_at hl 2 rfl) ?_
            refine lv_iload_n hx hb dX1_isA_19 rfl (lv_at hl 1 rfl) ?_
            refine lv_icmp_ne (tgt := 25) hx hb dX1_isA_20 (by decide) (fun c4 => ?_) (fun c4 => ?_)
            · skip
              have hF := hF.trans (if_neg c4)
              obtain ⟨ts5, hZts5, hTts5⟩ := hK.2.2.2.2.2.1
              refine va_gets hx hb hZts5 (km_S hw) hown (hts (.fieldLink RX1 15 "WrongWord$Asks" "NEAREST_ABOVE" "[I") ow_X1_isA_15) (fun _ h9 => h9) dX1_isA_25 ?_
              refine lv_iload_n hx hb dX1_isA_28 rfl (lv_at hl 2 rfl) ?_
              have hb6 : ¬ (x2_4 < 0 ∨ 6 ≤ Int32.toNatClampNeg x2_4) := fun q => hs (hF.trans (if_pos q))
              have hF := hF.trans (if_neg hb6)
              refine va_ti (v := .int (st_above (Int32.toNatClampNeg x2_4))) hx hb hTts5 (km_S hw) hb6 rfl dX1_isA_29 ?_
              refine lv_istore_n (lv' := [(2, .int (st_above (Int32.toNatClampNeg x2_4))), (0, .int a0), (1, .int a1), (3, .int x3_4)]) hx hb dX1_isA_30 rfl hl (by decide) rfl (fun ls hl => ?_)
              refine lv_iinc (v := x3_4 + 1) (lv' := [(3, .int (x3_4 + 1)), (2, .int (st_above (Int32.toNatClampNeg x2_4))), (0, .int a0), (1, .int a1)]) hx hb dX1_isA_31 hl (k := 3) rfl rfl (by decide) rfl (fun ls hl => ?_)
              refine lv_goto (tgt := 4) hx hb dX1_isA_34 (by decide) ?_
              have hl := lv_sub (l' := [(0, .int a0), (1, .int a1), (2, .int (st_above (Int32.toNatClampNeg x2_4))), (3, .int (x3_4 + 1))]) hl [2, 3, 1, 0] rfl
              exact ih4 (st_above (Int32.toNatClampNeg x2_4)) (x3_4 + 1) _ _ _ hF hw hl
            · skip
              have hF := hF.trans (if_pos c4)
              refine lv_iconst (v := 1) hx hb dX1_isA_23 (by decide) ?_
              exact hret _ _ _ _ _ _ hw dX1_isA_24 (Or.inr rfl) ⟨hF, rfl⟩
  refine lv_iload_n hx hb dX1_isA_0 rfl (lv_at hl 0 rfl) ?_
  refine lv_istore_n (lv' := [(2, .int a0), (0, .int a0), (1, .int a1)]) hx hb dX1_isA_1 rfl hl (by decide) rfl (fun ls hl => ?_)
  refine lv_iconst (v := 0) hx hb dX1_isA_2 (by decide) ?_
  refine lv_istore_n (lv' := [(3, .int 0), (2, .int a0), (0, .int a0), (1, .int a1)]) hx hb dX1_isA_3 rfl hl (by decide) rfl (fun ls hl => ?_)
  have hl := lv_sub (l' := [(0, .int a0), (1, .int a1), (2, .int a0), (3, .int 0)]) hl [2, 3, 1, 0] rfl
  exact loop4 2000 a0 0 _ _ _ hF hw hl
abbrev rmX1_turnTo : Room := { frames := 0, cells := 0, slots := 0, locals := 0 }
def g_X1_turnTo (v : Mm) (a1 : Int32) (a2 : Int32) (a3 : Int32) (a4 : Int32) : Option (Mm) := Option.bind (some (up3 v 21 0 2 a1)) (fun v1 => Option.bind (some (up3 v1 21 0 3 a2)) (fun v2 => Option.bind (some (up3 v2 21 0 4 a3)) (fun v3 => Option.bind (some (up3 v3 21 0 5 a4)) (fun v4 => Option.bind (some (up3 v4 21 0 1 0)) (fun v5 => some v5)))))
set_option maxHeartbeats 4000000 in
set_option maxRecDepth 100000 in
theorem d_X1_turnTo (l : Launch) (E : kq_T) (Z : km_Z) (v : Mm) (a1 : Int32) (a2 : Int32) (a3 : Int32) (a4 : Int32) (hs : g_X1_turnTo v a1 a2 a3 a4 ≠ none) : km_V l E Z cntX yX1_turnTo wsX1_turnTo rmX1_turnTo [.ref (Z.1 21 0), .int a1, .int a2, .int a3, .int a4] v (fun v1 => g_X1_turnTo v a1 a2 a3 a4 = some v1) := by
  refine km_goV (cc := cX1_turnTo) (maxL := 5) (by decide) rfl (Nat.le_of_ble_eq_true rfl) rfl rfl rfl ?_
  intro p e s m below meth c A ls Q C hK hw hl hret
  obtain ⟨hx, hb, hml, hown, hts, -, -, -⟩ := C
  have hown : s.vm.findClass RX1 = some m.cls := hown
  have hl : lv_has ls 5 [(0, .ref (Z.1 21 0)), (1, .int a1), (2, .int a2), (3, .int a3), (4, .int a4)] := hl
  have hF := g_X1_turnTo.eq_1 v a1 a2 a3 a4
  refine lv_aload_n hx hb dX1_turnTo_0 rfl (lv_at hl 0 rfl) ?_
  refine lv_iload_n hx hb dX1_turnTo_1 rfl (lv_at hl 1 rfl) ?_
  refine km_put (ci := 1) (C := RX1) (T := TX1) (N := 6) (t := 21) (i := 0) hx hb hts fi_X1_turnTo_X1 tyX1 tyX1_ok nmX1 hown hK hw (by decide) (by decide) rfl rfl 2 (by decide) (hts (.fieldLink RX1 18 "WrongWord$Asks" "number" "I") ow_X1_turnTo_18) rfl (by decide +kernel) (Nat.le_of_ble_eq_true rfl) rfl dX1_turnTo_2 (fun H locs hw => ?_)
  obtain ⟨v1, ev1⟩ : ∃ z, z = up3 v 21 0 2 a1 := ⟨_, rfl⟩
  rw [← ev1] at hw
  have hF := hF.trans (kb_some (congrArg some ev1.symm) _)
  refine lv_aload_n hx hb dX1_turnTo_5 rfl (lv_at hl 0 rfl) ?_
  refine lv_iload_n hx hb dX1_turnTo_6 rfl (lv_at hl 2 rfl) ?_
  refine km_put (ci := 1) (C := RX1) (T := TX1) (N := 6) (t := 21) (i := 0) hx hb hts fi_X1_turnTo_X1 tyX1 tyX1_ok nmX1 hown hK hw (by decide) (by decide) rfl rfl 3 (by decide) (hts (.fieldLink RX1 22 "WrongWord$Asks" "kind" "I") ow_X1_turnTo_22) rfl (by decide +kernel) (Nat.le_of_ble_eq_true rfl) rfl dX1_turnTo_7 (fun H locs hw => ?_)
  obtain ⟨v2, ev2⟩ : ∃ z, z = up3 v1 21 0 3 a2 := ⟨_, rfl⟩
  rw [← ev2] at hw
  have hF := hF.trans (kb_some (congrArg some ev2.symm) _)
  refine lv_aload_n hx hb dX1_turnTo_10 rfl (lv_at hl 0 rfl) ?_
  refine lv_iload_n hx hb dX1_turnTo_11 rfl (lv_at hl 3 rfl) ?_
  refine km_put (ci := 1) (C := RX1) (T := TX1) (N := 6) (t := 21) (i := 0) hx hb hts fi_X1_turnTo_X1 tyX1 tyX1_ok nmX1 hown hK hw (by decide) (by decide) rfl rfl 4 (by decide) (hts (.fieldLink RX1 25 "WrongWord$Asks" "fee" "I") ow_X1_turnTo_25) rfl (by decide +kernel) (Nat.le_of_ble_eq_true rfl) rfl dX1_turnTo_12 (fun H locs hw => ?_)
  obtain ⟨v3, ev3⟩ : ∃ z, z = up3 v2 21 0 4 a3 := ⟨_, rfl⟩
  rw [← ev3] at hw
  have hF := hF.trans (kb_some (congrArg some ev3.symm) _)
  refine lv_aload_n hx hb dX1_turnTo_15 rfl (lv_at hl 0 rfl) ?_
  refine lv_iload hx hb dX1_turnTo_16 (lv_at hl 4 rfl) ?_
  refine km_put (ci := 1) (C := RX1) (T := TX1) (N := 6) (t := 21) (i := 0) hx hb hts fi_X1_turnTo_X1 tyX1 tyX1_ok nmX1 hown hK hw (by decide) (by decide) rfl rfl 5 (by decide) (hts (.fieldLink RX1 28 "WrongWord$Asks" "took" "I") ow_X1_turnTo_28) rfl (by decide +kernel) (Nat.le_of_ble_eq_true rfl) rfl dX1_turnTo_18 (fun H locs hw => ?_)
  obtain ⟨v4, ev4⟩ : ∃ z, z = up3 v3 21 0 5 a4 := ⟨_, rfl⟩
  rw [← ev4] at hw
  have hF := hF.trans (kb_some (congrArg some ev4.symm) _)
  refine lv_aload_n hx hb dX1_turnTo_21 rfl (lv_at hl 0 rfl) ?_
  refine lv_iconst (v := 0) hx hb dX1_turnTo_22 (by decide) ?_
  refine km_put (ci := 1) (C := RX1) (T := TX1) (N := 6) (t := 21) (i := 0) hx hb hts fi_X1_turnTo_X1 tyX1 tyX1_ok nmX1 hown hK hw (by decide) (by decide) rfl rfl 1 (by decide) (hts (.fieldLink RX1 31 "WrongWord$Asks" "begun" "I") ow_X1_turnTo_31) rfl (by decide +kernel) (Nat.le_of_ble_eq_true rfl) rfl dX1_turnTo_23 (fun H locs hw => ?_)
  obtain ⟨v5, ev5⟩ : ∃ z, z = up3 v4 21 0 1 0 := ⟨_, rfl⟩
  rw [← ev5] at hw
  have hF := hF.trans (kb_some (congrArg some ev5.symm) _)
  exact hret _ _ _ _ _ hw dX1_turnTo_26 hF
abbrev rmX1_sizeBody : Room := { frames := 0, cells := 0, slots := 0, locals := 0 }
def g_X1_sizeBody (v : Mm)  : Option (Int32) := if v 21 0 3 < 0 then (some (st_size (Int32.toNatClampNeg 0))) else (if 5 < v 21 0 3 then (some (st_size (Int32.toNatClampNeg 0))) else (if v 21 0 3 < 0 ∨ 6 ≤ Int32.toNatClampNeg (v 21 0 3) then none else (some (st_size (Int32.toNatClampNeg (v 21 0 3))))))
set_option maxHeartbeats 4000000 in
set_option maxRecDepth 100000 in
theorem d_X1_sizeBody (l : Launch) (E : kq_T) (Z : km_Z) (v : Mm) (hs : g_X1_sizeBody v ≠ none) : km_I l E Z cntX yX1_sizeBody wsX1_sizeBody rmX1_sizeBody [.ref (Z.1 21 0)] v (fun r v1 => g_X1_sizeBody v = some r ∧ v = v1) := by
  refine km_goI (cc := cX1_sizeBody) (maxL := 1) (by decide) rfl (Nat.le_of_ble_eq_true rfl) rfl rfl rfl ?_
  intro p e s m below meth c A ls Q C hK hw hl hret
  obtain ⟨hx, hb, hml, hown, hts, -, -, -⟩ := C
  have hown : s.vm.findClass RX1 = some m.cls := hown
  have hl : lv_has ls 1 [(0, .ref (Z.1 21 0))] := hl
  have hF := g_X1_sizeBody.eq_1 v 
  obtain ⟨ts1, hZts1, hTts1⟩ := hK.2.2.2.2.2.2.1
  refine va_gets hx hb hZts1 (km_S hw) hown (hts (.fieldLink RX1 45 "WrongWord$Asks" "SIZE_BODY" "[I") ow_X1_sizeBody_45) (fun _ h9 => h9) dX1_sizeBody_0 ?_
  refine lv_aload_n hx hb dX1_sizeBody_3 rfl (lv_at hl 0 rfl) ?_
  refine km_get (ci := 1) (C := RX1) (T := TX1) (N := 6) (t := 21) (i := 0) hx hb hts fi_X1_sizeBody_X1 hown hK hw (by decide) (by decide) rfl rfl 3 (by decide) (hts (.fieldLink RX1 22 "WrongWord$Asks" "kind" "I") ow_X1_sizeBody_22) rfl dX1_sizeBody_4 ?_
  refine lv_if_lt (tgt := 25) hx hb dX1_sizeBody_7 (by decide) (fun c2 => ?_) (fun c2 => ?_)
  · skip
    have hF := hF.trans (if_pos c2)
    refine lv_iconst (v := 0) hx hb dX1_sizeBody_25 (by decide) ?_
    refine va_ti (v := .int (st_size (Int32.toNatClampNeg 0))) hx hb hTts1 (km_S hw) (by unfold vp_in; decide) rfl dX1_sizeBody_26 ?_
    exact hret _ _ _ _ _ _ hw dX1_sizeBody_27 ⟨hF, rfl⟩
  · skip
    have hF := hF.trans (if_neg c2)
    refine lv_aload_n hx hb dX1_sizeBody_10 rfl (lv_at hl 0 rfl) ?_
    refine km_get (ci := 1) (C := RX1) (T := TX1) (N := 6) (t := 21) (i := 0) hx hb hts fi_X1_sizeBody_X1 hown hK hw (by decide) (by decide) rfl rfl 3 (by decide) (hts (.fieldLink RX1 22 "WrongWord$Asks" "kind" "I") ow_X1_sizeBody_22) rfl dX1_sizeBody_11 ?_
    refine lv_iconst (v := 5) hx hb dX1_sizeBody_14 (by decide) ?_
    refine lv_icmp_gt (tgt := 25) hx hb dX1_sizeBody_15 (by decide) (fun c3 => ?_) (fun c3 => ?_)
    · skip
      have hF := hF.trans (if_pos c3)
      refine lv_iconst (v := 0) hx hb dX1_sizeBody_25 (by decide) ?_
      refine va_ti (v := .int (st_size (Int32.toNatClampNeg 0))) hx hb hTts1 (km_S hw) (by unfold vp_in; decide) rfl dX1_sizeBody_26 ?_
      exact hret _ _ _ _ _ _ hw dX1_sizeBody_27 ⟨hF, rfl⟩
    · skip
      have hF := hF.trans (if_neg c3)
      refine lv_aload_n hx hb dX1_sizeBody_18 rfl (lv_at hl 0 rfl) ?_
      refine km_get (ci := 1) (C := RX1) (T := TX1) (N := 6) (t := 21) (i := 0) hx hb hts fi_X1_sizeBody_X1 hown hK hw (by decide) (by decide) rfl rfl 3 (by decide) (hts (.fieldLink RX1 22 "WrongWord$Asks" "kind" "I") ow_X1_sizeBody_22) rfl dX1_sizeBody_19 ?_
      refine lv_goto (tgt := 26) hx hb dX1_sizeBody_22 (by decide) ?_
      have hb4 : ¬ (v 21 0 3 < 0 ∨ 6 ≤ Int32.toNatClampNeg (v 21 0 3)) := fun q => hs (hF.trans (if_pos q))
      have hF := hF.trans (if_neg hb4)
      refine va_ti (v := .int (st_size (Int32.toNatClampNeg (v 21 0 3)))) hx hb hTts1 (km_S hw) hb4 rfl dX1_sizeBody_26 ?_
      exact hret _ _ _ _ _ _ hw dX1_sizeBody_27 ⟨hF, rfl⟩
abbrev rmX1_markBody : Room := { frames := 0, cells := 0, slots := 0, locals := 0 }
def g_X1_markBody (v : Mm)  : Option (Int32) := if v 21 0 3 < 0 then (some (st_mark (Int32.toNatClampNeg 0))) else (if 5 < v 21 0 3 then (some (st_mark (Int32.toNatClampNeg 0))) else (if v 21 0 3 < 0 ∨ 6 ≤ Int32.toNatClampNeg (v 21 0 3) then none else (some (st_mark (Int32.toNatClampNeg (v 21 0 3))))))
set_option maxHeartbeats 4000000 in
set_option maxRecDepth 100000 in
theorem d_X1_markBody (l : Launch) (E : kq_T) (Z : km_Z) (v : Mm) (hs : g_X1_markBody v ≠ none) : km_I l E Z cntX yX1_markBody wsX1_markBody rmX1_markBody [.ref (Z.1 21 0)] v (fun r v1 => g_X1_markBody v = some r ∧ v = v1) := by
  refine km_goI (cc := cX1_markBody) (maxL := 1) (by decide) rfl (Nat.le_of_ble_eq_true rfl) rfl rfl rfl ?_
  intro p e s m below meth c A ls Q C hK hw hl hret
  obtain ⟨hx, hb, hml, hown, hts, -, -, -⟩ := C
  have hown : s.vm.findClass RX1 = some m.cls := hown
  have hl : lv_has ls 1 [(0, .ref (Z.1 21 0))] := hl
  have hF := g_X1_markBody.eq_1 v 
  obtain ⟨ts1, hZts1, hTts1⟩ := hK.2.2.2.2.2.2.2
  refine va_gets hx hb hZts1 (km_S hw) hown (hts (.fieldLink RX1 48 "WrongWord$Asks" "MARK_BODY" "[I") ow_X1_markBody_48) (fun _ h9 => h9) dX1_markBody_0 ?_
  refine lv_aload_n hx hb dX1_markBody_3 rfl (lv_at hl 0 rfl) ?_
  refine km_get (ci := 1) (C := RX1) (T := TX1) (N := 6) (t := 21) (i := 0) hx hb hts fi_X1_markBody_X1 hown hK hw (by decide) (by decide) rfl rfl 3 (by decide) (hts (.fieldLink RX1 22 "WrongWord$Asks" "kind" "I") ow_X1_markBody_22) rfl dX1_markBody_4 ?_
  refine lv_if_lt (tgt := 25) hx hb dX1_markBody_7 (by decide) (fun c2 => ?_) (fun c2 => ?_)
  · skip
    have hF := hF.trans (if_pos c2)
    refine lv_iconst (v := 0) hx hb dX1_markBody_25 (by decide) ?_
    refine va_ti (v := .int (st_mark (Int32.toNatClampNeg 0))) hx hb hTts1 (km_S hw) (by unfold vp_in; decide) rfl dX1_markBody_26 ?_
    exact hret _ _ _ _ _ _ hw dX1_markBody_27 ⟨hF, rfl⟩
  · skip
    have hF := hF.trans (if_neg c2)
    refine lv_aload_n hx hb dX1_markBody_10 rfl (lv_at hl 0 rfl) ?_
    refine km_get (ci := 1) (C := RX1) (T := TX1) (N := 6) (t := 21) (i := 0) hx hb hts fi_X1_markBody_X1 hown hK hw (by decide) (by decide) rfl rfl 3 (by decide) (hts (.fieldLink RX1 22 "WrongWord$Asks" "kind" "I") ow_X1_markBody_22) rfl dX1_markBody_11 ?_
    refine lv_iconst (v := 5) hx hb dX1_markBody_14 (by decide) ?_
    refine lv_icmp_gt (tgt := 25) hx hb dX1_markBody_15 (by decide) (fun c3 => ?_) (fun c3 => ?_)
    · skip
      have hF := hF.trans (if_pos c3)
      refine lv_iconst (v := 0) hx hb dX1_markBody_25 (by decide) ?_
      refine va_ti (v := .int (st_mark (Int32.toNatClampNeg 0))) hx hb hTts1 (km_S hw) (by unfold vp_in; decide) rfl dX1_markBody_26 ?_
      exact hret _ _ _ _ _ _ hw dX1_markBody_27 ⟨hF, rfl⟩
    · skip
      have hF := hF.trans (if_neg c3)
      refine lv_aload_n hx hb dX1_markBody_18 rfl (lv_at hl 0 rfl) ?_
      refine km_get (ci := 1) (C := RX1) (T := TX1) (N := 6) (t := 21) (i := 0) hx hb hts fi_X1_markBody_X1 hown hK hw (by decide) (by decide) rfl rfl 3 (by decide) (hts (.fieldLink RX1 22 "WrongWord$Asks" "kind" "I") ow_X1_markBody_22) rfl dX1_markBody_19 ?_
      refine lv_goto (tgt := 26) hx hb dX1_markBody_22 (by decide) ?_
      have hb4 : ¬ (v 21 0 3 < 0 ∨ 6 ≤ Int32.toNatClampNeg (v 21 0 3)) := fun q => hs (hF.trans (if_pos q))
      have hF := hF.trans (if_neg hb4)
      refine va_ti (v := .int (st_mark (Int32.toNatClampNeg (v 21 0 3)))) hx hb hTts1 (km_S hw) hb4 rfl dX1_markBody_26 ?_
      exact hret _ _ _ _ _ _ hw dX1_markBody_27 ⟨hF, rfl⟩
abbrev rmX1_leave : Room := { frames := 0, cells := 0, slots := 0, locals := 0 }
def g_X1_leave (v : Mm) (a1 : Int32) : Option (Mm) := if 16 ≤ v 21 0 1 then (some v) else (if v 21 0 1 < 0 ∨ 16 ≤ Int32.toNatClampNeg (v 21 0 1) then none else (Option.bind (some (up3 v 22 0 (Int32.toNatClampNeg (v 21 0 1)) a1)) (fun v3 => Option.bind (some (up3 v3 21 0 1 ((v3 21 0 1) + 1))) (fun v4 => some v4))))
set_option maxHeartbeats 4000000 in
set_option maxRecDepth 100000 in
theorem d_X1_leave (l : Launch) (E : kq_T) (Z : km_Z) (v : Mm) (a1 : Int32) (hs : g_X1_leave v a1 ≠ none) : km_V l E Z cntX yX1_leave wsX1_leave rmX1_leave [.ref (Z.1 21 0), .int a1] v (fun v1 => g_X1_leave v a1 = some v1) := by
  refine km_goV (cc := cX1_leave) (maxL := 2) (by decide) rfl (Nat.le_of_ble_eq_true rfl) rfl rfl rfl ?_
  intro p e s m below meth c A ls Q C hK hw hl hret
  obtain ⟨hx, hb, hml, hown, hts, -, -, -⟩ := C
  have hown : s.vm.findClass RX1 = some m.cls := hown
  have hl : lv_has ls 2 [(0, .ref (Z.1 21 0)), (1, .int a1)] := hl
  have hF := g_X1_leave.eq_1 v a1
  refine lv_aload_n hx hb dX1_leave_0 rfl (lv_at hl 0 rfl) ?_
  refine km_get (ci := 1) (C := RX1) (T := TX1) (N := 6) (t := 21) (i := 0) hx hb hts fi_X1_leave_X1 hown hK hw (by decide) (by decide) rfl rfl 1 (by decide) (hts (.fieldLink RX1 31 "WrongWord$Asks" "begun" "I") ow_X1_leave_31) rfl dX1_leave_1 ?_
  refine lv_bipush (v := 16) hx hb dX1_leave_4 (by decide) ?_
  refine lv_icmp_ge (tgt := 29) hx hb dX1_leave_6 (by decide) (fun c1 => ?_) (fun c1 => ?_)
  · skip
    have hF := hF.trans (if_pos c1)
    exact hret _ _ _ _ _ hw dX1_leave_29 hF
  · skip
    have hF := hF.trans (if_neg c1)
    refine lv_aload_n hx hb dX1_leave_9 rfl (lv_at hl 0 rfl) ?_
    refine km_get (ci := 1) (C := RX1) (T := TX1) (N := 6) (t := 21) (i := 0) hx hb hts fi_X1_leave_X1 hown hK hw (by decide) (by decide) rfl rfl 0 (by decide) (hts (.fieldLink RX1 11 "WrongWord$Asks" "bodies" "[I") ow_X1_leave_11) rfl dX1_leave_10 ?_
    refine lv_aload_n hx hb dX1_leave_13 rfl (lv_at hl 0 rfl) ?_
    refine km_get (ci := 1) (C := RX1) (T := TX1) (N := 6) (t := 21) (i := 0) hx hb hts fi_X1_leave_X1 hown hK hw (by decide) (by decide) rfl rfl 1 (by decide) (hts (.fieldLink RX1 31 "WrongWord$Asks" "begun" "I") ow_X1_leave_31) rfl dX1_leave_14 ?_
    refine lv_iload_n hx hb dX1_leave_17 rfl (lv_at hl 1 rfl) ?_
    have hb2 : ¬ (v 21 0 1 < 0 ∨ 16 ≤ Int32.toNatClampNeg (v 21 0 1)) := fun q => hs (hF.trans (if_pos q))
    have hF := hF.trans (if_neg hb2)
    refine km_iast (t := 22) (i := 0) (n := 16) hx hb hK hw (by decide) (by decide) (fun _ => rfl) hb2 dX1_leave_18 (fun H locs hw => ?_)
    obtain ⟨v3, ev3⟩ : ∃ z, z = up3 v 22 0 (Int32.toNatClampNeg (v 21 0 1)) a1 := ⟨_, rfl⟩
    rw [← ev3] at hw
    have hF := hF.trans (kb_some (congrArg some ev3.symm) _)
    refine lv_aload_n hx hb dX1_leave_19 rfl (lv_at hl 0 rfl) ?_
    refine lv_dup hx hb dX1_leave_20 rfl ?_
    refine km_get (ci := 1) (C := RX1) (T := TX1) (N := 6) (t := 21) (i := 0) hx hb hts fi_X1_leave_X1 hown hK hw (by decide) (by decide) rfl rfl 1 (by decide) (hts (.fieldLink RX1 31 "WrongWord$Asks" "begun" "I") ow_X1_leave_31) rfl dX1_leave_21 ?_
    refine lv_iconst (v := 1) hx hb dX1_leave_24 (by decide) ?_
    refine lv_iadd hx hb dX1_leave_25 ?_
    refine km_put (ci := 1) (C := RX1) (T := TX1) (N := 6) (t := 21) (i := 0) hx hb hts fi_X1_leave_X1 tyX1 tyX1_ok nmX1 hown hK hw (by decide) (by decide) rfl rfl 1 (by decide) (hts (.fieldLink RX1 31 "WrongWord$Asks" "begun" "I") ow_X1_leave_31) rfl (by decide +kernel) (Nat.le_of_ble_eq_true rfl) rfl dX1_leave_26 (fun H locs hw => ?_)
    obtain ⟨v4, ev4⟩ : ∃ z, z = up3 v3 21 0 1 ((v3 21 0 1) + 1) := ⟨_, rfl⟩
    rw [← ev4] at hw
    have hF := hF.trans (kb_some (congrArg some ev4.symm) _)
    exact hret _ _ _ _ _ hw dX1_leave_29 hF
abbrev rmX1_given (n : Nat) : Room := { frames := n + 1, cells := 0, slots := 0, locals := 40 * (n + 1) }
def b_X1_given (rec : Mm → Int32 → Int32 → Option (Int32 × Mm)) (v : Mm) (a1 a2 : Int32) : Option (Int32 × Mm) := if a2 ≤ 20 then (Option.bind (g_X1_leave v a1) (fun v4 => if a1 = 10 then (some (v4 21 0 4, v4)) else (if a1 = 11 then (kb2 (rec v4 10 (a2 + 1)) (fun r8 v9 => Option.bind (g_X1_markBody v9) (fun r11 => kb2 (rec v9 r11 (a2 + 1)) (fun r14 v15 => some (r8 + r14, v15))))) else (if a1 = 12 then (kb2 (rec v4 11 (a2 + 1)) (fun r18 v19 => some (-r18, v19))) else (if a1 = 13 then (kb2 (rec v4 10 (a2 + 1)) (fun r22 v23 => some (r22 - 100, v23))) else (if a1 = 14 then (kb2 (rec v4 13 (a2 + 1)) (fun r26 v27 => some (r26 * 2, v27))) else (if a1 = 15 then (some (0, v4)) else (if a1 = 16 then (some (0, v4)) else (if a1 = 17 then (some (0, v4)) else (if a1 = 18 then (some (0, v4)) else (if a1 = 19 then (some (0, v4)) else (if a1 = 20 then (some (v4 21 0 2, v4)) else (if a1 = 21 then (kb2 (rec v4 20 (a2 + 1)) (fun r36 v37 => some (r36 + (v37 21 0 5), v37))) else (if a1 = 22 then (kb2 (rec v4 21 (a2 + 1)) (fun r40 v41 => some (r40 - 1000, v41))) else (if a1 = 23 then (kb2 (rec v4 20 (a2 + 1)) (fun r44 v45 => Option.bind (g_X1_sizeBody v45) (fun r47 => kb2 (rec v45 r47 (a2 + 1)) (fun r50 v51 => some (r44 - r50, v51))))) else (if a1 = 24 then (kb2 (rec v4 21 (a2 + 1)) (fun r54 v55 => some (r54 * 2, v55))) else (some (0, v4)))))))))))))))))) else (some (0, v))
def g_X1_given : Nat → Mm → Int32 → Int32 → Option (Int32 × Mm)
  | 0 => fun _ _ _ => none
  | n + 1 => b_X1_given (g_X1_given n)
set_option maxHeartbeats 4000000 in
set_option maxRecDepth 100000 in
theorem d_X1_given (l : Launch) (E : kq_T) (Z : km_Z) : ∀ (n : Nat) (v : Mm) (a1 a2 : Int32), g_X1_given n v a1 a2 ≠ none → km_I l E Z cntX yX1_given wsX1_given (rmX1_given n) [.ref (Z.1 21 0), .int a1, .int a2] v (fun r v1 => g_X1_given n v a1 a2 = some (r, v1)) := by
  intro n
  induction n with
  | zero => intro v a1 a2 hs; exact absurd rfl hs
  | succ n ih =>
    intro v a1 a2 hs
    refine km_goI (cc := cX1_given) (maxL := 4) (by decide) rfl (Nat.le_of_ble_eq_true rfl) rfl rfl rfl ?_
    intro p e s m below meth c A ls Q C hK hw hl hret
    obtain ⟨hx, hb, hml, hown, hts, -, -, -⟩ := C
    have hown : s.vm.findClass RX1 = some m.cls := hown
    have hl : lv_has ls 4 [(0, .ref (Z.1 21 0)), (1, .int a1), (2, .int a2)] := hl
    have hF : g_X1_given (n + 1) v a1 a2 = _ := b_X1_given.eq_1 (g_X1_given n) v a1 a2
    refine lv_iload_n hx hb dX1_given_0 rfl (lv_at hl 2 rfl) ?_
    refine lv_bipush (v := 20) hx hb dX1_given_1 (by decide) ?_
    refine lv_icmp_le (tgt := 8) hx hb dX1_given_3 (by decide) (fun c1 => ?_) (fun c1 => ?_)
    · skip
      have hF := hF.trans (if_pos c1)
      refine lv_aload_n hx hb dX1_given_8 rfl (lv_at hl 0 rfl) ?_
      refine lv_iload_n hx hb dX1_given_9 rfl (lv_at hl 1 rfl) ?_
      have hs2 : g_X1_leave v a1 ≠ none := fun q => hs (hF.trans (kb_n q _))
      refine km_cV (As := [.int a1]) (rest := []) (n := 1) (q := (RX1, TX1, 6)) (ci := 1) (t := 21) (i := 0) ⟨hx, hb, hml, hown, hts⟩ (d_X1_leave l E Z v a1 hs2) gX1_given_X1_leave rfl hV_X1_leave ⟨by show 0 + 1 ≤ n + 1 + 1; omega, by show 8 + (2 + 11) + 0 ≤ 40 * (n + 1 + 1); omega⟩ hK hw (by decide) (by decide) rfl rfl rfl hl.1 rfl (Nat.le_of_ble_eq_true rfl) dX1_given_10 rfl rfl (fun v4 H locs hp hw => ?_)
      have hF := hF.trans (kb_some hp _)
      refine lv_iload_n hx hb dX1_given_13 rfl (lv_at hl 2 rfl) ?_
      refine lv_iconst (v := 1) hx hb dX1_given_14 (by decide) ?_
      refine lv_iadd hx hb dX1_given_15 ?_
      refine lv_istore_n (lv' := [(3, .int (a2 + 1)), (0, .ref (Z.1 21 0)), (1, .int a1), (2, .int a2)]) hx hb dX1_given_16 rfl hl (by decide) rfl (fun ls hl => ?_)
      refine lv_iload_n hx hb dX1_given_17 rfl (lv_at hl 2 rfl) ?_
      by_cases c5 : a1 = 10
      · skip
        have hF := hF.trans (if_pos c5)
        refine lv_tableIn (tgt := 92) (off := 74) hx hb dX1_given_18 (by rw [c5]; decide) (by rw [c5]; decide) (by rw [c5]; rfl) (by decide) ?_
        refine lv_aload_n hx hb dX1_given_92 rfl (lv_at hl 1 rfl) ?_
        refine km_get (ci := 1) (C := RX1) (T := TX1) (N := 6) (t := 21) (i := 0) hx hb hts fi_X1_given_X1 hown hK hw (by decide) (by decide) rfl rfl 4 (by decide) (hts (.fieldLink RX1 25 "WrongWord$Asks" "fee" "I") ow_X1_given_25) rfl dX1_given_93 ?_
        exact hret _ _ _ _ _ _ hw dX1_given_96 hF
      have hF := hF.trans (if_neg c5)
      by_cases c6 : a1 = 11
      · skip
        have hF := hF.trans (if_pos c6)
        refine lv_tableIn (tgt := 97) (off := 79) hx hb dX1_given_18 (by rw [c6]; decide) (by rw [c6]; decide) (by rw [c6]; rfl) (by decide) ?_
        refine lv_aload_n hx hb dX1_given_97 rfl (lv_at hl 1 rfl) ?_
        refine lv_bipush (v := 10) hx hb dX1_given_98 (by decide) ?_
        refine lv_iload_n hx hb dX1_given_100 rfl (lv_at hl 0 rfl) ?_
        have hs7 : g_X1_given n v4 10 (a2 + 1) ≠ none := fun q => hs (hF.trans (kb2_n q _))
        refine km_cS (As := [.ref (Z.1 21 0), .int 10, .int (a2 + 1)]) (rest := []) (n := 3) ⟨hx, hb, hml, hown, hts⟩ (ih v4 10 (a2 + 1) hs7) gX1_given_X1_given rfl hV_X1_given ⟨by show n + 1 + 1 ≤ n + 1 + 1; omega, by show 8 + (4 + 11) + 40 * (n + 1) ≤ 40 * (n + 1 + 1); omega⟩ hK hw rfl hl.1 rfl (Nat.le_of_ble_eq_true rfl) dX1_given_101 rfl rfl (fun r8 v9 H locs hp hw => ?_)
        have hF := hF.trans (kb2_some hp _)
        refine lv_aload_n hx hb dX1_given_104 rfl (lv_at hl 1 rfl) ?_
        refine lv_aload_n hx hb dX1_given_105 rfl (lv_at hl 1 rfl) ?_
        have hs10 : g_X1_markBody v9 ≠ none := fun q => hs (hF.trans (kb_n q _))
        refine km_cI (As := []) (rest := [.ref (Z.1 21 0), .int r8]) (n := 0) (q := (RX1, TX1, 6)) (ci := 1) (t := 21) (i := 0) ⟨hx, hb, hml, hown, hts⟩ (d_X1_markBody l E Z v9  hs10) gX1_given_X1_markBody rfl hV_X1_markBody ⟨by show 0 + 1 ≤ n + 1 + 1; omega, by show 8 + (1 + 11) + 0 ≤ 40 * (n + 1 + 1); omega⟩ hK hw (by decide) (by decide) rfl rfl rfl hl.1 rfl (Nat.le_of_ble_eq_true rfl) dX1_given_106 rfl rfl (fun r11 v12 H locs hp hw => ?_)
        obtain ⟨hp, rfl⟩ := hp
        have hF := hF.trans (kb_some hp _)
        refine lv_iload_n hx hb dX1_given_109 rfl (lv_at hl 0 rfl) ?_
        have hs13 : g_X1_given n v9 r11 (a2 + 1) ≠ none := fun q => hs (hF.trans (kb2_n q _))
        refine km_cS (As := [.ref (Z.1 21 0), .int r11, .int (a2 + 1)]) (rest := [.int r8]) (n := 3) ⟨hx, hb, hml, hown, hts⟩ (ih v9 r11 (a2 + 1) hs13) gX1_given_X1_given rfl hV_X1_given ⟨by show n + 1 + 1 ≤ n + 1 + 1; omega, by show 8 + (4 + 11) + 40 * (n + 1) ≤ 40 * (n + 1 + 1); omega⟩ hK hw rfl hl.1 rfl (Nat.le_of_ble_eq_true rfl) dX1_given_110 rfl rfl (fun r14 v15 H locs hp hw => ?_)
        have hF := hF.trans (kb2_some hp _)
        refine lv_iadd hx hb dX1_given_113 ?_
        exact hret _ _ _ _ _ _ hw dX1_given_114 hF
      have hF := hF.trans (if_neg c6)
      by_cases c16 : a1 = 12
      · skip
        have hF := hF.trans (if_pos c16)
        refine lv_tableIn (tgt := 115) (off := 97) hx hb dX1_given_18 (by rw [c16]; decide) (by rw [c16]; decide) (by rw [c16]; rfl) (by decide) ?_
        refine lv_aload_n hx hb dX1_given_115 rfl (lv_at hl 1 rfl) ?_
        refine lv_bipush (v := 11) hx hb dX1_given_116 (by decide) ?_
        refine lv_iload_n hx hb dX1_given_118 rfl (lv_at hl 0 rfl) ?_
        have hs17 : g_X1_given n v4 11 (a2 + 1) ≠ none := fun q => hs (hF.trans (kb2_n q _))
        refine km_cS (As := [.ref (Z.1 21 0), .int 11, .int (a2 + 1)]) (rest := []) (n := 3) ⟨hx, hb, hml, hown, hts⟩ (ih v4 11 (a2 + 1) hs17) gX1_given_X1_given rfl hV_X1_given ⟨by show n + 1 + 1 ≤ n + 1 + 1; omega, by show 8 + (4 + 11) + 40 * (n + 1) ≤ 40 * (n + 1 + 1); omega⟩ hK hw rfl hl.1 rfl (Nat.le_of_ble_eq_true rfl) dX1_given_119 rfl rfl (fun r18 v19 H locs hp hw => ?_)
        have hF := hF.trans (kb2_some hp _)
        refine lv_ineg hx hb dX1_given_122 ?_
        exact hret _ _ _ _ _ _ hw dX1_given_123 hF
      have hF := hF.trans (if_neg c16)
      by_cases c20 : a1 = 13
      · skip
        have hF := hF.trans (if_pos c20)
        refine lv_tableIn (tgt := 124) (off := 106) hx hb dX1_given_18 (by rw [c20]; decide) (by rw [c20]; decide) (by rw [c20]; rfl) (by decide) ?_
        refine lv_aload_n hx hb dX1_given_124 rfl (lv_at hl 1 rfl) ?_
        refine lv_bipush (v := 10) hx hb dX1_given_125 (by decide) ?_
        refine lv_iload_n hx hb dX1_given_127 rfl (lv_at hl 0 rfl) ?_
        have hs21 : g_X1_given n v4 10 (a2 + 1) ≠ none := fun q => hs (hF.trans (kb2_n q _))
        refine km_cS (As := [.ref (Z.1 21 0), .int 10, .int (a2 + 1)]) (rest := []) (n := 3) ⟨hx, hb, hml, hown, hts⟩ (ih v4 10 (a2 + 1) hs21) gX1_given_X1_given rfl hV_X1_given ⟨by show n + 1 + 1 ≤ n + 1 + 1; omega, by show 8 + (4 + 11) + 40 * (n + 1) ≤ 40 * (n + 1 + 1); omega⟩ hK hw rfl hl.1 rfl (Nat.le_of_ble_eq_true rfl) dX1_given_128 rfl rfl (fun r22 v23 H locs hp hw => ?_)
        have hF := hF.trans (kb2_some hp _)
        refine lv_bipush (v := 100) hx hb dX1_given_131 (by decide) ?_
        refine lv_isub hx hb dX1_given_133 ?_
        exact hret _ _ _ _ _ _ hw dX1_given_134 hF
      have hF := hF.trans (if_neg c20)
      by_cases c24 : a1 = 14
      · skip
        have hF := hF.trans (if_pos c24)
        refine lv_tableIn (tgt := 135) (off := 117) hx hb dX1_given_18 (by rw [c24]; decide) (by rw [c24]; decide) (by rw [c24]; rfl) (by decide) ?_
        refine lv_aload_n hx hb dX1_given_135 rfl (lv_at hl 1 rfl) ?_
        refine lv_bipush (v := 13) hx hb dX1_given_136 (by decide) ?_
        refine lv_iload_n hx hb dX1_given_138 rfl (lv_at hl 0 rfl) ?_
        have hs25 : g_X1_given n v4 13 (a2 + 1) ≠ none := fun q => hs (hF.trans (kb2_n q _))
        refine km_cS (As := [.ref (Z.1 21 0), .int 13, .int (a2 + 1)]) (rest := []) (n := 3) ⟨hx, hb, hml, hown, hts⟩ (ih v4 13 (a2 + 1) hs25) gX1_given_X1_given rfl hV_X1_given ⟨by show n + 1 + 1 ≤ n + 1 + 1; omega, by show 8 + (4 + 11) + 40 * (n + 1) ≤ 40 * (n + 1 + 1); omega⟩ hK hw rfl hl.1 rfl (Nat.le_of_ble_eq_true rfl) dX1_given_139 rfl rfl (fun r26 v27 H locs hp hw => ?_)
        have hF := hF.trans (kb2_some hp _)
        refine lv_iconst (v := 2) hx hb dX1_given_142 (by decide) ?_
        refine lv_imul hx hb dX1_given_143 ?_
        exact hret _ _ _ _ _ _ hw dX1_given_144 hF
      have hF := hF.trans (if_neg c24)
      by_cases c28 : a1 = 15
      · skip
        have hF := hF.trans (if_pos c28)
        refine lv_tableIn (tgt := 203) (off := 185) hx hb dX1_given_18 (by rw [c28]; decide) (by rw [c28]; decide) (by rw [c28]; rfl) (by decide) ?_
        refine lv_iconst (v := 0) hx hb dX1_given_203 (by decide) ?_
        exact hret _ _ _ _ _ _ hw dX1_given_204 hF
      have hF := hF.trans (if_neg c28)
      by_cases c29 : a1 = 16
      · skip
        have hF := hF.trans (if_pos c29)
        refine lv_tableIn (tgt := 203) (off := 185) hx hb dX1_given_18 (by rw [c29]; decide) (by rw [c29]; decide) (by rw [c29]; rfl) (by decide) ?_
        refine lv_iconst (v := 0) hx hb dX1_given_203 (by decide) ?_
        exact hret _ _ _ _ _ _ hw dX1_given_204 hF
      have hF := hF.trans (if_neg c29)
      by_cases c30 : a1 = 17
      · skip
        have hF := hF.trans (if_pos c30)
        refine lv_tableIn (tgt := 203) (off := 185) hx hb dX1_given_18 (by rw [c30]; decide) (by rw [c30]; decide) (by rw [c30]; rfl) (by decide) ?_
        refine lv_iconst (v := 0) hx hb dX1_given_203 (by decide) ?_
        exact hret _ _ _ _ _ _ hw dX1_given_204 hF
      have hF := hF.trans (if_neg c30)
      by_cases c31 : a1 = 18
      · skip
        have hF := hF.trans (if_pos c31)
        refine lv_tableIn (tgt := 203) (off := 185) hx hb dX1_given_18 (by rw [c31]; decide) (by rw [c31]; decide) (by rw [c31]; rfl) (by decide) ?_
        refine lv_iconst (v := 0) hx hb dX1_given_203 (by decide) ?_
        exact hret _ _ _ _ _ _ hw dX1_given_204 hF
      have hF := hF.trans (if_neg c31)
      by_cases c32 : a1 = 19
      · skip
        have hF := hF.trans (if_pos c32)
        refine lv_tableIn (tgt := 203) (off := 185) hx hb dX1_given_18 (by rw [c32]; decide) (by rw [c32]; decide) (by rw [c32]; rfl) (by decide) ?_
        refine lv_iconst (v := 0) hx hb dX1_given_203 (by decide) ?_
        exact hret _ _ _ _ _ _ hw dX1_given_204 hF
      have hF := hF.trans (if_neg c32)
      by_cases c33 : a1 = 20
      · skip
        have hF := hF.trans (if_pos c33)
        refine lv_tableIn (tgt := 145) (off := 127) hx hb dX1_given_18 (by rw [c33]; decide) (by rw [c33]; decide) (by rw [c33]; rfl) (by decide) ?_
        refine lv_aload_n hx hb dX1_given_145 rfl (lv_at hl 1 rfl) ?_
        refine km_get (ci := 1) (C := RX1) (T := TX1) (N := 6) (t := 21) (i := 0) hx hb hts fi_X1_given_X1 hown hK hw (by decide) (by decide) rfl rfl 2 (by decide) (hts (.fieldLink RX1 18 "WrongWord$Asks" "number" "I") ow_X1_given_18) rfl dX1_given_146 ?_
        exact hret _ _ _ _ _ _ hw dX1_given_149 hF
      have hF := hF.trans (if_neg c33)
      by_cases c34 : a1 = 21
      · skip
        have hF := hF.trans (if_pos c34)
        refine lv_tableIn (tgt := 150) (off := 132) hx hb dX1_given_18 (by rw [c34]; decide) (by rw [c34]; decide) (by rw [c34]; rfl) (by decide) ?_
        refine lv_aload_n hx hb dX1_given_150 rfl (lv_at hl 1 rfl) ?_
        refine lv_bipush (v := 20) hx hb dX1_given_151 (by decide) ?_
        refine lv_iload_n hx hb dX1_given_153 rfl (lv_at hl 0 rfl) ?_
        have hs35 : g_X1_given n v4 20 (a2 + 1) ≠ none := fun q => hs (hF.trans (kb2_n q _))
        refine km_cS (As := [.ref (Z.1 21 0), .int 20, .int (a2 + 1)]) (rest := []) (n := 3) ⟨hx, hb, hml, hown, hts⟩ (ih v4 20 (a2 + 1) hs35) gX1_given_X1_given rfl hV_X1_given ⟨by show n + 1 + 1 ≤ n + 1 + 1; omega, by show 8 + (4 + 11) + 40 * (n + 1) ≤ 40 * (n + 1 + 1); omega⟩ hK hw rfl hl.1 rfl (Nat.le_of_ble_eq_true rfl) dX1_given_154 rfl rfl (fun r36 v37 H locs hp hw => ?_)
        have hF := hF.trans (kb2_some hp _)
        refine lv_aload_n hx hb dX1_given_157 rfl (lv_at hl 1 rfl) ?_
        refine km_get (ci := 1) (C := RX1) (T := TX1) (N := 6) (t := 21) (i := 0) hx hb hts fi_X1_given_X1 hown hK hw (by decide) (by decide) rfl rfl 5 (by decide) (hts (.fieldLink RX1 28 "WrongWord$Asks" "took" "I") ow_X1_given_28) rfl dX1_given_158 ?_
        refine lv_iadd hx hb dX1_given_161 ?_
        exact hret _ _ _ _ _ _ hw dX1_given_162 hF
      have hF := hF.trans (if_neg c34)
      by_cases c38 : a1 = 22
      · skip
        have hF := hF.trans (if_pos c38)
        refine lv_tableIn (tgt := 163) (off := 145) hx hb dX1_given_18 (by rw [c38]; decide) (by rw [c38]; decide) (by rw [c38]; rfl) (by decide) ?_
        refine lv_aload_n hx hb dX1_given_163 rfl (lv_at hl 1 rfl) ?_
        refine lv_bipush (v := 21) hx hb dX1_given_164 (by decide) ?_
        refine lv_iload_n hx hb dX1_given_166 rfl (lv_at hl 0 rfl) ?_
        have hs39 : g_X1_given n v4 21 (a2 + 1) ≠ none := fun q => hs (hF.trans (kb2_n q _))
        refine km_cS (As := [.ref (Z.1 21 0), .int 21, .int (a2 + 1)]) (rest := []) (n := 3) ⟨hx, hb, hml, hown, hts⟩ (ih v4 21 (a2 + 1) hs39) gX1_given_X1_given rfl hV_X1_given ⟨by show n + 1 + 1 ≤ n + 1 + 1; omega, by show 8 + (4 + 11) + 40 * (n + 1) ≤ 40 * (n + 1 + 1); omega⟩ hK hw rfl hl.1 rfl (Nat.le_of_ble_eq_true rfl) dX1_given_167 rfl rfl (fun r40 v41 H locs hp hw => ?_)
        have hF := hF.trans (kb2_some hp _)
        refine lv_sipush (v := 1000) hx hb dX1_given_170 (by decide) ?_
        refine lv_isub hx hb dX1_given_173 ?_
        exact hret _ _ _ _ _ _ hw dX1_given_174 hF
      have hF := hF.trans (if_neg c38)
      by_cases c42 : a1 = 23
      · skip
        have hF := hF.trans (if_pos c42)
        refine lv_tableIn (tgt := 175) (off := 157) hx hb dX1_given_18 (by rw [c42]; decide) (by rw [c42]; decide) (by rw [c42]; rfl) (by decide) ?_
        refine lv_aload_n hx hb dX1_given_175 rfl (lv_at hl 1 rfl) ?_
        refine lv_bipush (v := 20) hx hb dX1_given_176 (by decide) ?_
        refine lv_iload_n hx hb dX1_given_178 rfl (lv_at hl 0 rfl) ?_
        have hs43 : g_X1_given n v4 20 (a2 + 1) ≠ none := fun q => hs (hF.trans (kb2_n q _))
        refine km_cS (As := [.ref (Z.1 21 0), .int 20, .int (a2 + 1)]) (rest := []) (n := 3) ⟨hx, hb, hml, hown, hts⟩ (ih v4 20 (a2 + 1) hs43) gX1_given_X1_given rfl hV_X1_given ⟨by show n + 1 + 1 ≤ n + 1 + 1; omega, by show 8 + (4 + 11) + 40 * (n + 1) ≤ 40 * (n + 1 + 1); omega⟩ hK hw rfl hl.1 rfl (Nat.le_of_ble_eq_true rfl) dX1_given_179 rfl rfl (fun r44 v45 H locs hp hw => ?_)
        have hF := hF.trans (kb2_some hp _)
        refine lv_aload_n hx hb dX1_given_182 rfl (lv_at hl 1 rfl) ?_
        refine lv_aload_n hx hb dX1_given_183 rfl (lv_at hl 1 rfl) ?_
        have hs46 : g_X1_sizeBody v45 ≠ none := fun q => hs (hF.trans (kb_n q _))
        refine km_cI (As := []) (rest := [.ref (Z.1 21 0), .int r44]) (n := 0) (q := (RX1, TX1, 6)) (ci := 1) (t := 21) (i := 0) ⟨hx, hb, hml, hown, hts⟩ (d_X1_sizeBody l E Z v45  hs46) gX1_given_X1_sizeBody rfl hV_X1_sizeBody ⟨by show 0 + 1 ≤ n + 1 + 1; omega, by show 8 + (1 + 11) + 0 ≤ 40 * (n + 1 + 1); omega⟩ hK hw (by decide) (by decide) rfl rfl rfl hl.1 rfl (Nat.le_of_ble_eq_true rfl) dX1_given_184 rfl rfl (fun r47 v48 H locs hp hw => ?_)
        obtain ⟨hp, rfl⟩ := hp
        have hF := hF.trans (kb_some hp _)
        refine lv_iload_n hx hb dX1_given_187 rfl (lv_at hl 0 rfl) ?_
        have hs49 : g_X1_given n v45 r47 (a2 + 1) ≠ none := fun q => hs (hF.trans (kb2_n q _))
        refine km_cS (As := [.ref (Z.1 21 0), .int r47, .int (a2 + 1)]) (rest := [.int r44]) (n := 3) ⟨hx, hb, hml, hown, hts⟩ (ih v45 r47 (a2 + 1) hs49) gX1_given_X1_given rfl hV_X1_given ⟨by show n + 1 + 1 ≤ n + 1 + 1; omega, by show 8 + (4 + 11) + 40 * (n + 1) ≤ 40 * (n + 1 + 1); omega⟩ hK hw rfl hl.1 rfl (Nat.le_of_ble_eq_true rfl) dX1_given_188 rfl rfl (fun r50 v51 H locs hp hw => ?_)
        have hF := hF.trans (kb2_some hp _)
        refine lv_isub hx hb dX1_given_191 ?_
        exact hret _ _ _ _ _ _ hw dX1_given_192 hF
      have hF := hF.trans (if_neg c42)
      by_cases c52 : a1 = 24
      · skip
        have hF := hF.trans (if_pos c52)
        refine lv_tableIn (tgt := 193) (off := 175) hx hb dX1_given_18 (by rw [c52]; decide) (by rw [c52]; decide) (by rw [c52]; rfl) (by decide) ?_
        refine lv_aload_n hx hb dX1_given_193 rfl (lv_at hl 1 rfl) ?_
        refine lv_bipush (v := 21) hx hb dX1_given_194 (by decide) ?_
        refine lv_iload_n hx hb dX1_given_196 rfl (lv_at hl 0 rfl) ?_
        have hs53 : g_X1_given n v4 21 (a2 + 1) ≠ none := fun q => hs (hF.trans (kb2_n q _))
        refine km_cS (As := [.ref (Z.1 21 0), .int 21, .int (a2 + 1)]) (rest := []) (n := 3) ⟨hx, hb, hml, hown, hts⟩ (ih v4 21 (a2 + 1) hs53) gX1_given_X1_given rfl hV_X1_given ⟨by show n + 1 + 1 ≤ n + 1 + 1; omega, by show 8 + (4 + 11) + 40 * (n + 1) ≤ 40 * (n + 1 + 1); omega⟩ hK hw rfl hl.1 rfl (Nat.le_of_ble_eq_true rfl) dX1_given_197 rfl rfl (fun r54 v55 H locs hp hw => ?_)
        have hF := hF.trans (kb2_some hp _)
        refine lv_iconst (v := 2) hx hb dX1_given_200 (by decide) ?_
        refine lv_imul hx hb dX1_given_201 ?_
        exact hret _ _ _ _ _ _ hw dX1_given_202 hF
      have hF := hF.trans (if_neg c52)
      have nc5 : ¬ Int32.toInt a1 = 10 := fun q => c5 (Int32.toInt_inj.mp (q.trans (by decide)))
      have nc6 : ¬ Int32.toInt a1 = 11 := fun q => c6 (Int32.toInt_inj.mp (q.trans (by decide)))
      have nc16 : ¬ Int32.toInt a1 = 12 := fun q => c16 (Int32.toInt_inj.mp (q.trans (by decide)))
      have nc20 : ¬ Int32.toInt a1 = 13 := fun q => c20 (Int32.toInt_inj.mp (q.trans (by decide)))
      have nc24 : ¬ Int32.toInt a1 = 14 := fun q => c24 (Int32.toInt_inj.mp (q.trans (by decide)))
      have nc28 : ¬ Int32.toInt a1 = 15 := fun q => c28 (Int32.toInt_inj.mp (q.trans (by decide)))
      have nc29 : ¬ Int32.toInt a1 = 16 := fun q => c29 (Int32.toInt_inj.mp (q.trans (by decide)))
      have nc30 : ¬ Int32.toInt a1 = 17 := fun q => c30 (Int32.toInt_inj.mp (q.trans (by decide)))
      have nc31 : ¬ Int32.toInt a1 = 18 := fun q => c31 (Int32.toInt_inj.mp (q.trans (by decide)))
      have nc32 : ¬ Int32.toInt a1 = 19 := fun q => c32 (Int32.toInt_inj.mp (q.trans (by decide)))
      have nc33 : ¬ Int32.toInt a1 = 20 := fun q => c33 (Int32.toInt_inj.mp (q.trans (by decide)))
      have nc34 : ¬ Int32.toInt a1 = 21 := fun q => c34 (Int32.toInt_inj.mp (q.trans (by decide)))
      have nc38 : ¬ Int32.toInt a1 = 22 := fun q => c38 (Int32.toInt_inj.mp (q.trans (by decide)))
      have nc42 : ¬ Int32.toInt a1 = 23 := fun q => c42 (Int32.toInt_inj.mp (q.trans (by decide)))
      have nc52 : ¬ Int32.toInt a1 = 24 := fun q => c52 (Int32.toInt_inj.mp (q.trans (by decide)))
      refine lv_tableOut (tgt := 203) hx hb dX1_given_18 (by omega) (by decide) ?_
      refine lv_iconst (v := 0) hx hb dX1_given_203 (by decide) ?_
      exact hret _ _ _ _ _ _ hw dX1_given_204 hF
    · skip
      have hF := hF.trans (if_neg c1)
      refine lv_iconst (v := 0) hx hb dX1_given_6 (by decide) ?_
      exact hret _ _ _ _ _ _ hw dX1_given_7 hF
abbrev rmX1_answer : Room := { frames := 32, cells := 0, slots := 0, locals := 1263 }
def g_X1_answer (v : Mm) (a1 : Int32) : Option (Int32 × Mm) := if a1 = 0 then (Option.bind (g_X1_sizeBody v) (fun r9 => kb2 (g_X1_given 30 v r9 0) (fun r12 v13 => some (r12, v13)))) else (Option.bind (g_X1_markBody v) (fun r3 => kb2 (g_X1_given 30 v r3 0) (fun r6 v7 => some (r6, v7))))
set_option maxHeartbeats 4000000 in
set_option maxRecDepth 100000 in
theorem d_X1_answer (l : Launch) (E : kq_T) (Z : km_Z) (v : Mm) (a1 : Int32) (hs : g_X1_answer v a1 ≠ none) : km_I l E Z cntX yX1_answer wsX1_answer rmX1_answer [.ref (Z.1 21 0), .int a1] v (fun r v1 => g_X1_answer v a1 = some (r, v1)) := by
  refine km_goI (cc := cX1_answer) (maxL := 2) (by decide) rfl (Nat.le_of_ble_eq_true rfl) rfl rfl rfl ?_
  intro p e s m below meth c A ls Q C hK hw hl hret
  obtain ⟨hx, hb, hml, hown, hts, -, -, -⟩ := C
  have hown : s.vm.findClass RX1 = some m.cls := hown
  have hl : lv_has ls 2 [(0, .ref (Z.1 21 0)), (1, .int a1)] := hl
  have hF := g_X1_answer.eq_1 v a1
  refine lv_aload_n hx hb dX1_answer_0 rfl (lv_at hl 0 rfl) ?_
  refine lv_iload_n hx hb dX1_answer_1 rfl (lv_at hl 1 rfl) ?_
  refine lv_if_ne (tgt := 12) hx hb dX1_answer_2 (by decide) (fun c1 => ?_) (fun c1 => ?_)
  · skip
    have hF := hF.trans (if_neg c1)
    refine lv_aload_n hx hb dX1_answer_12 rfl (lv_at hl 0 rfl) ?_
    have hs2 : g_X1_markBody v ≠ none := fun q => hs (hF.trans (kb_n q _))
    refine km_cI (As := []) (rest := [.ref (Z.1 21 0)]) (n := 0) (q := (RX1, TX1, 6)) (ci := 1) (t := 21) (i := 0) ⟨hx, hb, hml, hown, hts⟩ (d_X1_markBody l E Z v  hs2) gX1_answer_X1_markBody rfl hV_X1_markBody ⟨Nat.le_of_ble_eq_true rfl, Nat.le_of_ble_eq_true rfl⟩ hK hw (by decide) (by decide) rfl rfl rfl hl.1 rfl (Nat.le_of_ble_eq_true rfl) dX1_answer_13 rfl rfl (fun r3 v4 H locs hp hw => ?_)
    obtain ⟨hp, rfl⟩ := hp
    have hF := hF.trans (kb_some hp _)
    refine lv_iconst (v := 0) hx hb dX1_answer_16 (by decide) ?_
    have hs5 : g_X1_given 30 v r3 0 ≠ none := fun q => hs (hF.trans (kb2_n q _))
    refine km_cS (As := [.ref (Z.1 21 0), .int r3, .int 0]) (rest := []) (n := 3) ⟨hx, hb, hml, hown, hts⟩ (d_X1_given l E Z 30 v r3 0 hs5) gX1_answer_X1_given rfl hV_X1_given ⟨Nat.le_of_ble_eq_true rfl, Nat.le_of_ble_eq_true rfl⟩ hK hw rfl hl.1 rfl (Nat.le_of_ble_eq_true rfl) dX1_answer_17 rfl rfl (fun r6 v7 H locs hp hw => ?_)
    have hF := hF.trans (kb2_some hp _)
    exact hret _ _ _ _ _ _ hw dX1_answer_20 hF
  · skip
    have hF := hF.trans (if_pos c1)
    refine lv_aload_n hx hb dX1_answer_5 rfl (lv_at hl 0 rfl) ?_
    have hs8 : g_X1_sizeBody v ≠ none := fun q => hs (hF.trans (kb_n q _))
    refine km_cI (As := []) (rest := [.ref (Z.1 21 0)]) (n := 0) (q := (RX1, TX1, 6)) (ci := 1) (t := 21) (i := 0) ⟨hx, hb, hml, hown, hts⟩ (d_X1_sizeBody l E Z v  hs8) gX1_answer_X1_sizeBody rfl hV_X1_sizeBody ⟨Nat.le_of_ble_eq_true rfl, Nat.le_of_ble_eq_true rfl⟩ hK hw (by decide) (by decide) rfl rfl rfl hl.1 rfl (Nat.le_of_ble_eq_true rfl) dX1_answer_6 rfl rfl (fun r9 v10 H locs hp hw => ?_)
    obtain ⟨hp, rfl⟩ := hp
    have hF := hF.trans (kb_some hp _)
    refine lv_goto (tgt := 16) hx hb dX1_answer_9 (by decide) ?_
    refine lv_iconst (v := 0) hx hb dX1_answer_16 (by decide) ?_
    have hs11 : g_X1_given 30 v r9 0 ≠ none := fun q => hs (hF.trans (kb2_n q _))
    refine km_cS (As := [.ref (Z.1 21 0), .int r9, .int 0]) (rest := []) (n := 3) ⟨hx, hb, hml, hown, hts⟩ (d_X1_given l E Z 30 v r9 0 hs11) gX1_answer_X1_given rfl hV_X1_given ⟨Nat.le_of_ble_eq_true rfl, Nat.le_of_ble_eq_true rfl⟩ hK hw rfl hl.1 rfl (Nat.le_of_ble_eq_true rfl) dX1_answer_17 rfl rfl (fun r12 v13 H locs hp hw => ?_)
    have hF := hF.trans (kb2_some hp _)
    exact hret _ _ _ _ _ _ hw dX1_answer_20 hF
abbrev rmX2_become : Room := { frames := 2, cells := 0, slots := 0, locals := 85 }
def g_X2_become (v : Mm) (i0 : Nat) (i1 : Nat) : Option (Mm) := Option.bind (some (cpy3 v 7 i1 (Int32.toNatClampNeg 0) 7 i0 (Int32.toNatClampNeg 0) (Int32.toNatClampNeg 18))) (fun v1 => Option.bind (some (cpy3 v1 8 i1 (Int32.toNatClampNeg 0) 8 i0 (Int32.toNatClampNeg 0) (Int32.toNatClampNeg 4))) (fun v2 => Option.bind (some (cpy3 v2 9 i1 (Int32.toNatClampNeg 0) 9 i0 (Int32.toNatClampNeg 0) (Int32.toNatClampNeg 4))) (fun v3 => Option.bind (g_X4_become v3 i0 i1) (fun v6 => Option.bind (some (up3 v6 6 i0 4 (v6 6 i1 4))) (fun v7 => Option.bind (some (up3 v7 6 i0 5 (v7 6 i1 5))) (fun v8 => Option.bind (some (up3 v8 6 i0 6 (v8 6 i1 6))) (fun v9 => Option.bind (some (up3 v9 6 i0 7 (v9 6 i1 7))) (fun v10 => some v10))))))))
set_option maxHeartbeats 4000000 in
set_option maxRecDepth 100000 in
theorem d_X2_become (l : Launch) (E : kq_T) (Z : km_Z) (v : Mm) (i0 : Nat) (h_i0 : i0 < cntX 6) (i1 : Nat) (h_i1 : i1 < cntX 6) (hs : g_X2_become v i0 i1 ≠ none) : km_V l E Z cntX yX2_become wsX2_become rmX2_become [.ref (Z.1 6 i0), .ref (Z.1 6 i1)] v (fun v1 => g_X2_become v i0 i1 = some v1) := by
  refine km_goV (cc := cX2_become) (maxL := 2) (by decide) rfl (Nat.le_of_ble_eq_true rfl) rfl rfl rfl ?_
  intro p e s m below meth c A ls Q C hK hw hl hret
  obtain ⟨hx, hb, hml, hown, hts, -, -, -⟩ := C
  have hown : s.vm.findClass RX2 = some m.cls := hown
  have hl : lv_has ls 2 [(0, .ref (Z.1 6 i0)), (1, .ref (Z.1 6 i1))] := hl
  have hF := g_X2_become.eq_1 v i0 i1
  refine lv_aload_n hx hb dX2_become_0 rfl (lv_at hl 1 rfl) ?_
  refine km_get (ci := 2) (C := RX2) (T := TX2) (N := 8) (t := 6) (i := i1) hx hb hts fi_X2_become_X2 hown hK hw (by decide) h_i1 rfl rfl 0 (by decide) (hts (.fieldLink RX2 9 "WrongWord$Gate" "letters" "[I") ow_X2_become_9) rfl dX2_become_1 ?_
  refine lv_iconst (v := 0) hx hb dX2_become_4 (by decide) ?_
  refine lv_aload_n hx hb dX2_become_5 rfl (lv_at hl 0 rfl) ?_
  refine km_get (ci := 2) (C := RX2) (T := TX2) (N := 8) (t := 6) (i := i0) hx hb hts fi_X2_become_X2 hown hK hw (by decide) h_i0 rfl rfl 0 (by decide) (hts (.fieldLink RX2 9 "WrongWord$Gate" "letters" "[I") ow_X2_become_9) rfl dX2_become_6 ?_
  refine lv_iconst (v := 0) hx hb dX2_become_9 (by decide) ?_
  refine lv_bipush (v := 18) hx hb dX2_become_10 (by decide) ?_
  refine km_copy (t1 := 7) (i1 := i1) (t2 := 7) (i2 := i0) (n0 := 18) (n1 := 18) hx hb (hml.trans hl.1.symm) hown (hts (.methodLink RX2 28 arraycopyName) (by decide +kernel)) (hts (.native arraycopyName) (by decide +kernel)) (hts (.static arraycopyName) (by decide +kernel)) (hts (.initialized "java/lang/System") (by decide +kernel)) hK hw (by decide) h_i1 (by decide) h_i0 (fun _ => rfl) (fun _ => rfl) (by decide) (by decide) (by decide) (by decide) (by decide) (Nat.le_of_ble_eq_true rfl) (Nat.le_of_ble_eq_true rfl) dX2_become_12 (fun H locs hw => ?_)
  obtain ⟨v1, ev1⟩ : ∃ z, z = cpy3 v 7 i1 (Int32.toNatClampNeg 0) 7 i0 (Int32.toNatClampNeg 0) (Int32.toNatClampNeg 18) := ⟨_, rfl⟩
  rw [← ev1] at hw
  have hF := hF.trans (kb_some (congrArg some ev1.symm) _)
  refine lv_aload_n hx hb dX2_become_15 rfl (lv_at hl 1 rfl) ?_
  refine km_get (ci := 2) (C := RX2) (T := TX2) (N := 8) (t := 6) (i := i1) hx hb hts fi_X2_become_X2 hown hK hw (by decide) h_i1 rfl rfl 1 (by decide) (hts (.fieldLink RX2 15 "WrongWord$Gate" "kinds" "[I") ow_X2_become_15) rfl dX2_become_16 ?_
  refine lv_iconst (v := 0) hx hb dX2_become_19 (by decide) ?_
  refine lv_aload_n hx hb dX2_become_20 rfl (lv_at hl 0 rfl) ?_
  refine km_get (ci := 2) (C := RX2) (T := TX2) (N := 8) (t := 6) (i := i0) hx hb hts fi_X2_become_X2 hown hK hw (by decide) h_i0 rfl rfl 1 (by decide) (hts (.fieldLink RX2 15 "WrongWord$Gate" "kinds" "[I") ow_X2_become_15) rfl dX2_become_21 ?_
  refine lv_iconst (v := 0) hx hb dX2_become_24 (by decide) ?_
  refine lv_iconst (v := 4) hx hb dX2_become_25 (by decide) ?_
  refine km_copy (t1 := 8) (i1 := i1) (t2 := 8) (i2 := i0) (n0 := 4) (n1 := 4) hx hb (hml.trans hl.1.symm) hown (hts (.methodLink RX2 28 arraycopyName) (by decide +kernel)) (hts (.native arraycopyName) (by decide +kernel)) (hts (.static arraycopyName) (by decide +kernel)) (hts (.initialized "java/lang/System") (by decide +kernel)) hK hw (by decide) h_i1 (by decide) h_i0 (fun _ => rfl) (fun _ => rfl) (by decide) (by decide) (by decide) (by decide) (by decide) (Nat.le_of_ble_eq_true rfl) (Nat.le_of_ble_eq_true rfl) dX2_become_26 (fun H locs hw => ?_)
  obtain ⟨v2, ev2⟩ : ∃ z, z = cpy3 v1 8 i1 (Int32.toNatClampNeg 0) 8 i0 (Int32.toNatClampNeg 0) (Int32.toNatClampNeg 4) := ⟨_, rfl⟩
  rw [← ev2] at hw
  have hF := hF.trans (kb_some (congrArg some ev2.symm) _)
  refine lv_aload_n hx hb dX2_become_29 rfl (lv_at hl 1 rfl) ?_
  refine km_get (ci := 2) (C := RX2) (T := TX2) (N := 8) (t := 6) (i := i1) hx hb hts fi_X2_become_X2 hown hK hw (by decide) h_i1 rfl rfl 2 (by decide) (hts (.fieldLink RX2 18 "WrongWord$Gate" "fees" "[I") ow_X2_become_18) rfl dX2_become_30 ?_
  refine lv_iconst (v := 0) hx hb dX2_become_33 (by decide) ?_
  refine lv_aload_n hx hb dX2_become_34 rfl (lv_at hl 0 rfl) ?_
  refine km_get (ci := 2) (C := RX2) (T := TX2) (N := 8) (t := 6) (i := i0) hx hb hts fi_X2_become_X2 hown hK hw (by decide) h_i0 rfl rfl 2 (by decide) (hts (.fieldLink RX2 18 "WrongWord$Gate" "fees" "[I") ow_X2_become_18) rfl dX2_become_35 ?_
  refine lv_iconst (v := 0) hx hb dX2_become_38 (by decide) ?_
  refine lv_iconst (v := 4) hx hb dX2_become_39 (by decide) ?_
  refine km_copy (t1 := 9) (i1 := i1) (t2 := 9) (i2 := i0) (n0 := 4) (n1 := 4) hx hb (hml.trans hl.1.symm) hown (hts (.methodLink RX2 28 arraycopyName) (by decide +kernel)) (hts (.native arraycopyName) (by decide +kernel)) (hts (.static arraycopyName) (by decide +kernel)) (hts (.initialized "java/lang/System") (by decide +kernel)) hK hw (by decide) h_i1 (by decide) h_i0 (fun _ => rfl) (fun _ => rfl) (by decide) (by decide) (by decide) (by decide) (by decide) (Nat.le_of_ble_eq_true rfl) (Nat.le_of_ble_eq_true rfl) dX2_become_40 (fun H locs hw => ?_)
  obtain ⟨v3, ev3⟩ : ∃ z, z = cpy3 v2 9 i1 (Int32.toNatClampNeg 0) 9 i0 (Int32.toNatClampNeg 0) (Int32.toNatClampNeg 4) := ⟨_, rfl⟩
  rw [← ev3] at hw
  have hF := hF.trans (kb_some (congrArg some ev3.symm) _)
  refine lv_aload_n hx hb dX2_become_43 rfl (lv_at hl 0 rfl) ?_
  refine km_get (ci := 2) (C := RX2) (T := TX2) (N := 8) (t := 6) (i := i0) hx hb hts fi_X2_become_X2 hown hK hw (by decide) h_i0 rfl rfl 3 (by decide) (hts (.fieldLink RX2 24 "WrongWord$Gate" "now" "LWrongWord$Moment;") ow_X2_become_24) rfl dX2_become_44 ?_
  refine lv_aload_n hx hb dX2_become_47 rfl (lv_at hl 1 rfl) ?_
  refine km_get (ci := 2) (C := RX2) (T := TX2) (N := 8) (t := 6) (i := i1) hx hb hts fi_X2_become_X2 hown hK hw (by decide) h_i1 rfl rfl 3 (by decide) (hts (.fieldLink RX2 24 "WrongWord$Gate" "now" "LWrongWord$Moment;") ow_X2_become_24) rfl dX2_become_48 ?_
  have hs4 : g_X4_become v3 i0 i1 ≠ none := fun q => hs (hF.trans (kb_n q _))
  refine km_cV (As := [.ref (Z.1 10 i1)]) (rest := []) (n := 1) (q := (RX4, TX4, 8)) (ci := 4) (t := 10) (i := i0) ⟨hx, hb, hml, hown, hts⟩ (d_X4_become l E Z v3 i0 (Nat.lt_of_lt_of_le (show i0 < cntX 6 from h_i0) (by decide)) i1 (Nat.lt_of_lt_of_le (show i1 < cntX 6 from h_i1) (by decide)) hs4) gX2_become_X4_become rfl hV_X4_become ⟨Nat.le_of_ble_eq_true rfl, Nat.le_of_ble_eq_true rfl⟩ hK hw (by decide) (Nat.lt_of_lt_of_le (show i0 < cntX 6 from h_i0) (by decide)) rfl rfl rfl hl.1 rfl (Nat.le_of_ble_eq_true rfl) dX2_become_51 rfl rfl (fun v6 H locs hp hw => ?_)
  have hF := hF.trans (kb_some hp _)
  refine lv_aload_n hx hb dX2_become_54 rfl (lv_at hl 0 rfl) ?_
  refine lv_aload_n hx hb dX2_become_55 rfl (lv_at hl 1 rfl) ?_
  refine km_get (ci := 2) (C := RX2) (T := TX2) (N := 8) (t := 6) (i := i1) hx hb hts fi_X2_become_X2 hown hK hw (by decide) h_i1 rfl rfl 4 (by decide) (hts (.fieldLink RX2 38 "WrongWord$Gate" "step" "I") ow_X2_become_38) rfl dX2_become_56 ?_
  refine km_put (ci := 2) (C := RX2) (T := TX2) (N := 8) (t := 6) (i := i0) hx hb hts fi_X2_become_X2 tyX2 tyX2_ok nmX2 hown hK hw (by decide) h_i0 rfl rfl 4 (by decide) (hts (.fieldLink RX2 38 "WrongWord$Gate" "step" "I") ow_X2_become_38) rfl (by decide +kernel) (Nat.le_of_ble_eq_true rfl) rfl dX2_become_59 (fun H locs hw => ?_)
  obtain ⟨v7, ev7⟩ : ∃ z, z = up3 v6 6 i0 4 (v6 6 i1 4) := ⟨_, rfl⟩
  rw [← ev7] at hw
  have hF := hF.trans (kb_some (congrArg some ev7.symm) _)
  refine lv_aload_n hx hb dX2_become_62 rfl (lv_at hl 0 rfl) ?_
  refine lv_aload_n hx hb dX2_become_63 rfl (lv_at hl 1 rfl) ?_
  refine km_get (ci := 2) (C := RX2) (T := TX2) (N := 8) (t := 6) (i := i1) hx hb hts fi_X2_become_X2 hown hK hw (by decide) h_i1 rfl rfl 5 (by decide) (hts (.fieldLink RX2 42 "WrongWord$Gate" "shrove" "I") ow_X2_become_42) rfl dX2_become_64 ?_
  refine km_put (ci := 2) (C := RX2) (T := TX2) (N := 8) (t := 6) (i := i0) hx hb hts fi_X2_become_X2 tyX2 tyX2_ok nmX2 hown hK hw (by decide) h_i0 rfl rfl 5 (by decide) (hts (.fieldLink RX2 42 "WrongWord$Gate" "shrove" "I") ow_X2_become_42) rfl (by decide +kernel) (Nat.le_of_ble_eq_true rfl) rfl dX2_become_67 (fun H locs hw => ?_)
  obtain ⟨v8, ev8⟩ : ∃ z, z = up3 v7 6 i0 5 (v7 6 i1 5) := ⟨_, rfl⟩
  rw [← ev8] at hw
  have hF := hF.trans (kb_some (congrArg some ev8.symm) _)
  refine lv_aload_n hx hb dX2_become_70 rfl (lv_at hl 0 rfl) ?_
  refine lv_aload_n hx hb dX2_become_71 rfl (lv_at hl 1 rfl) ?_
  refine km_get (ci := 2) (C := RX2) (T := TX2) (N := 8) (t := 6) (i := i1) hx hb hts fi_X2_become_X2 hown hK hw (by decide) h_i1 rfl rfl 6 (by decide) (hts (.fieldLink RX2 45 "WrongWord$Gate" "words" "I") ow_X2_become_45) rfl dX2_become_72 ?_
  refine km_put (ci := 2) (C := RX2) (T := TX2) (N := 8) (t := 6) (i := i0) hx hb hts fi_X2_become_X2 tyX2 tyX2_ok nmX2 hown hK hw (by decide) h_i0 rfl rfl 6 (by decide) (hts (.fieldLink RX2 45 "WrongWord$Gate" "words" "I") ow_X2_become_45) rfl (by decide +kernel) (Nat.le_of_ble_eq_true rfl) rfl dX2_become_75 (fun H locs hw => ?_)
  obtain ⟨v9, ev9⟩ : ∃ z, z = up3 v8 6 i0 6 (v8 6 i1 6) := ⟨_, rfl⟩
  rw [← ev9] at hw
  have hF := hF.trans (kb_some (congrArg some ev9.symm) _)
  refine lv_aload_n hx hb dX2_become_78 rfl (lv_at hl 0 rfl) ?_
  refine lv_aload_n hx hb dX2_become_79 rfl (lv_at hl 1 rfl) ?_
  refine km_get (ci := 2) (C := RX2) (T := TX2) (N := 8) (t := 6) (i := i1) hx hb hts fi_X2_become_X2 hown hK hw (by decide) h_i1 rfl rfl 7 (by decide) (hts (.fieldLink RX2 48 "WrongWord$Gate" "guards" "I") ow_X2_become_48) rfl dX2_become_80 ?_
  refine km_put (ci := 2) (C := RX2) (T := TX2) (N := 8) (t := 6) (i := i0) hx hb hts fi_X2_become_X2 tyX2 tyX2_ok nmX2 hown hK hw (by decide) h_i0 rfl rfl 7 (by decide) (hts (.fieldLink RX2 48 "WrongWord$Gate" "guards" "I") ow_X2_become_48) rfl (by decide +kernel) (Nat.le_of_ble_eq_true rfl) rfl dX2_become_83 (fun H locs hw => ?_)
  obtain ⟨v10, ev10⟩ : ∃ z, z = up3 v9 6 i0 7 (v9 6 i1 7) := ⟨_, rfl⟩
  rw [← ev10] at hw
  have hF := hF.trans (kb_some (congrArg some ev10.symm) _)
  exact hret _ _ _ _ _ hw dX2_become_86 hF
abbrev rmX7_rest : Room := { frames := 0, cells := 0, slots := 0, locals := 0 }
def g_X7_rest (v : Mm) (a0 : Int32) (a1 : Int32) : Option (Int32) := if a1 ≤ 0 then (some 0) else (if a1 = 0 then none else (some (a0 - a0 / a1 * a1)))
set_option maxHeartbeats 4000000 in
set_option maxRecDepth 100000 in
theorem d_X7_rest (l : Launch) (E : kq_T) (Z : km_Z) (v : Mm) (a0 : Int32) (a1 : Int32) (hs : g_X7_rest v a0 a1 ≠ none) : km_I l E Z cntX yX7_rest wsX7_rest rmX7_rest [.int a0, .int a1] v (fun r v1 => g_X7_rest v a0 a1 = some r ∧ v = v1) := by
  refine km_goI (cc := cX7_rest) (maxL := 2) (by decide) rfl (Nat.le_of_ble_eq_true rfl) rfl rfl rfl ?_
  intro p e s m below meth c A ls Q C hK hw hl hret
  obtain ⟨hx, hb, hml, hown, hts, -, -, -⟩ := C
  have hown : s.vm.findClass RX7 = some m.cls := hown
  have hl : lv_has ls 2 [(0, .int a0), (1, .int a1)] := hl
  have hF := g_X7_rest.eq_1 v a0 a1
  refine lv_iload_n hx hb dX7_rest_0 rfl (lv_at hl 1 rfl) ?_
  refine lv_if_le (tgt := 10) hx hb dX7_rest_1 (by decide) (fun c1 => ?_) (fun c1 => ?_)
  · skip
    have hF := hF.trans (if_pos c1)
    refine lv_iconst (v := 0) hx hb dX7_rest_10 (by decide) ?_
    exact hret _ _ _ _ _ _ hw dX7_rest_11 ⟨hF, rfl⟩
  · skip
    have hF := hF.trans (if_neg c1)
    refine lv_iload_n hx hb dX7_rest_4 rfl (lv_at hl 0 rfl) ?_
    refine lv_iload_n hx hb dX7_rest_5 rfl (lv_at hl 1 rfl) ?_
    have hb2 : ¬ a1 = 0 := fun q => hs (hF.trans (if_pos q))
    have hF := hF.trans (if_neg hb2)
    refine lv_irem hx hb dX7_rest_6 hb2 ?_
    refine lv_goto (tgt := 11) hx hb dX7_rest_7 (by decide) ?_
    exact hret _ _ _ _ _ _ hw dX7_rest_11 ⟨hF, rfl⟩
abbrev rmX2_secretBy : Room := { frames := 1, cells := 0, slots := 0, locals := 21 }
def g_X2_secretBy (v : Mm) (i0 : Nat) (a1 : Int32) (a2 : Int32) (a3 : Int32) (a4 : Int32) : Option (Int32) := if a4 - a4 / 7 * 7 = a3 then (some 0) else (Option.bind (g_X7_rest v (a1 + (a2 * a4)) (v 6 i0 6)) (fun r3 => some r3))
set_option maxHeartbeats 4000000 in
set_option maxRecDepth 100000 in
theorem d_X2_secretBy (l : Launch) (E : kq_T) (Z : km_Z) (v : Mm) (i0 : Nat) (h_i0 : i0 < cntX 6) (a1 : Int32) (a2 : Int32) (a3 : Int32) (a4 : Int32) (hs : g_X2_secretBy v i0 a1 a2 a3 a4 ≠ none) : km_I l E Z cntX yX2_secretBy wsX2_secretBy rmX2_secretBy [.ref (Z.1 6 i0), .int a1, .int a2, .int a3, .int a4] v (fun r v1 => g_X2_secretBy v i0 a1 a2 a3 a4 = some r ∧ v = v1) := by
  refine km_goI (cc := cX2_secretBy) (maxL := 5) (by decide) rfl (Nat.le_of_ble_eq_true rfl) rfl rfl rfl ?_
  intro p e s m below meth c A ls Q C hK hw hl hret
  obtain ⟨hx, hb, hml, hown, hts, -, -, -⟩ := C
  have hown : s.vm.findClass RX2 = some m.cls := hown
  have hl : lv_has ls 5 [(0, .ref (Z.1 6 i0)), (1, .int a1), (2, .int a2), (3, .int a3), (4, .int a4)] := hl
  have hF := g_X2_secretBy.eq_1 v i0 a1 a2 a3 a4
  refine lv_iload hx hb dX2_secretBy_0 (lv_at hl 4 rfl) ?_
  refine lv_bipush (v := 7) hx hb dX2_secretBy_2 (by decide) ?_
  refine lv_irem hx hb dX2_secretBy_4 (by decide) ?_
  refine lv_iload_n hx hb dX2_secretBy_5 rfl (lv_at hl 3 rfl) ?_
  refine lv_icmp_ne (tgt := 13) hx hb dX2_secretBy_6 (by decide) (fun c1 => ?_) (fun c1 => ?_)
  · skip
    have hF := hF.trans (if_neg c1)
    refine lv_iload_n hx hb dX2_secretBy_13 rfl (lv_at hl 1 rfl) ?_
    refine lv_iload_n hx hb dX2_secretBy_14 rfl (lv_at hl 2 rfl) ?_
    refine lv_iload hx hb dX2_secretBy_15 (lv_at hl 4 rfl) ?_
    refine lv_imul hx hb dX2_secretBy_17 ?_
    refine lv_iadd hx hb dX2_secretBy_18 ?_
    refine lv_aload_n hx hb dX2_secretBy_19 rfl (lv_at hl 0 rfl) ?_
    refine km_get (ci := 2) (C := RX2) (T := TX2) (N := 8) (t := 6) (i := i0) hx hb hts fi_X2_secretBy_X2 hown hK hw (by decide) h_i0 rfl rfl 6 (by decide) (hts (.fieldLink RX2 45 "WrongWord$Gate" "words" "I") ow_X2_secretBy_45) rfl dX2_secretBy_20 ?_
    have hs2 : g_X7_rest v (a1 + (a2 * a4)) (v 6 i0 6) ≠ none := fun q => hs (hF.trans (kb_n q _))
    refine km_cSN (As := [.int (a1 + (a2 * a4)), .int (v 6 i0 6)]) (rest := []) (n := 2) ⟨hx, hb, hml, hown, hts⟩ (d_X7_rest l E Z v (a1 + (a2 * a4)) (v 6 i0 6) hs2) gX2_secretBy_X7_rest_n51 rfl (hts (.initialized RX7) (by decide +kernel)) (by decide +kernel) (hts (.static yX7_rest) (by decide +kernel)) (by decide +kernel) ⟨Nat.le_of_ble_eq_true rfl, Nat.le_of_ble_eq_true rfl⟩ hK hw rfl hl.1 rfl (Nat.le_of_ble_eq_true rfl) dX2_secretBy_23 rfl rfl (fun r3 v4 H locs hp hw => ?_)
    obtain ⟨hp, rfl⟩ := hp
    have hF := hF.trans (kb_some hp _)
    exact hret _ _ _ _ _ _ hw dX2_secretBy_26 ⟨hF, rfl⟩
  · skip
    have hF := hF.trans (if_pos c1)
    refine lv_iconst (v := 0) hx hb dX2_secretBy_9 (by decide) ?_
    refine lv_goto (tgt := 26) hx hb dX2_secretBy_10 (by decide) ?_
    exact hret _ _ _ _ _ _ hw dX2_secretBy_26 ⟨hF, rfl⟩
abbrev rmX2_secretIn : Room := { frames := 2, cells := 0, slots := 0, locals := 45 }
def g_X2_secretIn (v : Mm) (i0 : Nat) (a1 : Int32) : Option (Int32) := Option.bind (g_X2_secretBy v i0 (v 10 i0 5) (v 6 i0 4) (v 6 i0 5) ((v 10 i0 4) + a1)) (fun r2 => some r2)
set_option maxHeartbeats 4000000 in
set_option maxRecDepth 100000 in
theorem d_X2_secretIn (l : Launch) (E : kq_T) (Z : km_Z) (v : Mm) (i0 : Nat) (h_i0 : i0 < cntX 6) (a1 : Int32) (hs : g_X2_secretIn v i0 a1 ≠ none) : km_I l E Z cntX yX2_secretIn wsX2_secretIn rmX2_secretIn [.ref (Z.1 6 i0), .int a1] v (fun r v1 => g_X2_secretIn v i0 a1 = some r ∧ v = v1) := by
  refine km_goI (cc := cX2_secretIn) (maxL := 2) (by decide) rfl (Nat.le_of_ble_eq_true rfl) rfl rfl rfl ?_
  intro p e s m below meth c A ls Q C hK hw hl hret
  obtain ⟨hx, hb, hml, hown, hts, -, -, -⟩ := C
  have hown : s.vm.findClass RX2 = some m.cls := hown
  have hl : lv_has ls 2 [(0, .ref (Z.1 6 i0)), (1, .int a1)] := hl
  have hF := g_X2_secretIn.eq_1 v i0 a1
  refine lv_aload_n hx hb dX2_secretIn_0 rfl (lv_at hl 0 rfl) ?_
  refine lv_aload_n hx hb dX2_secretIn_1 rfl (lv_at hl 0 rfl) ?_
  refine km_get (ci := 2) (C := RX2) (T := TX2) (N := 8) (t := 6) (i := i0) hx hb hts fi_X2_secretIn_X2 hown hK hw (by decide) h_i0 rfl rfl 3 (by decide) (hts (.fieldLink RX2 24 "WrongWord$Gate" "now" "LWrongWord$Moment;") ow_X2_secretIn_24) rfl dX2_secretIn_2 ?_
  refine km_get (ci := 4) (C := RX4) (T := TX4) (N := 8) (t := 10) (i := i0) hx hb hts fi_X2_secretIn_X4 hown hK hw (by decide) (Nat.lt_of_lt_of_le (show i0 < cntX 6 from h_i0) (by decide)) rfl rfl 5 (by decide) (hts (.fieldLink RX2 55 "WrongWord$Moment" "start" "I") ow_X2_secretIn_55) rfl dX2_secretIn_5 ?_
  refine lv_aload_n hx hb dX2_secretIn_8 rfl (lv_at hl 0 rfl) ?_
  refine km_get (ci := 2) (C := RX2) (T := TX2) (N := 8) (t := 6) (i := i0) hx hb hts fi_X2_secretIn_X2 hown hK hw (by decide) h_i0 rfl rfl 4 (by decide) (hts (.fieldLink RX2 38 "WrongWord$Gate" "step" "I") ow_X2_secretIn_38) rfl dX2_secretIn_9 ?_
  refine lv_aload_n hx hb dX2_secretIn_12 rfl (lv_at hl 0 rfl) ?_
  refine km_get (ci := 2) (C := RX2) (T := TX2) (N := 8) (t := 6) (i := i0) hx hb hts fi_X2_secretIn_X2 hown hK hw (by decide) h_i0 rfl rfl 5 (by decide) (hts (.fieldLink RX2 42 "WrongWord$Gate" "shrove" "I") ow_X2_secretIn_42) rfl dX2_secretIn_13 ?_
  refine lv_aload_n hx hb dX2_secretIn_16 rfl (lv_at hl 0 rfl) ?_
  refine km_get (ci := 2) (C := RX2) (T := TX2) (N := 8) (t := 6) (i := i0) hx hb hts fi_X2_secretIn_X2 hown hK hw (by decide) h_i0 rfl rfl 3 (by decide) (hts (.fieldLink RX2 24 "WrongWord$Gate" "now" "LWrongWord$Moment;") ow_X2_secretIn_24) rfl dX2_secretIn_17 ?_
  refine km_get (ci := 4) (C := RX4) (T := TX4) (N := 8) (t := 10) (i := i0) hx hb hts fi_X2_secretIn_X4 hown hK hw (by decide) (Nat.lt_of_lt_of_le (show i0 < cntX 6 from h_i0) (by decide)) rfl rfl 4 (by decide) (hts (.fieldLink RX2 58 "WrongWord$Moment" "night" "I") ow_X2_secretIn_58) rfl dX2_secretIn_20 ?_
  refine lv_iload_n hx hb dX2_secretIn_23 rfl (lv_at hl 1 rfl) ?_
  refine lv_iadd hx hb dX2_secretIn_24 ?_
  have hs1 : g_X2_secretBy v i0 (v 10 i0 5) (v 6 i0 4) (v 6 i0 5) ((v 10 i0 4) + a1) ≠ none := fun q => hs (hF.trans (kb_n q _))
  refine km_cI (As := [.int (v 10 i0 5), .int (v 6 i0 4), .int (v 6 i0 5), .int ((v 10 i0 4) + a1)]) (rest := []) (n := 4) (q := (RX2, TX2, 8)) (ci := 2) (t := 6) (i := i0) ⟨hx, hb, hml, hown, hts⟩ (d_X2_secretBy l E Z v i0 h_i0 (v 10 i0 5) (v 6 i0 4) (v 6 i0 5) ((v 10 i0 4) + a1) hs1) gX2_secretIn_X2_secretBy rfl hV_X2_secretBy ⟨Nat.le_of_ble_eq_true rfl, Nat.le_of_ble_eq_true rfl⟩ hK hw (by decide) h_i0 rfl rfl rfl hl.1 rfl (Nat.le_of_ble_eq_true rfl) dX2_secretIn_25 rfl rfl (fun r2 v3 H locs hp hw => ?_)
  obtain ⟨hp, rfl⟩ := hp
  have hF := hF.trans (kb_some hp _)
  exact hret _ _ _ _ _ _ hw dX2_secretIn_28 ⟨hF, rfl⟩
abbrev rmX2_distance : Room := { frames := 0, cells := 0, slots := 0, locals := 0 }
def b_X2_distance_L5  (rec5 : Int32 → Int32 → Option (Int32)) (v : Mm) (i0 : Nat) (a1 : Int32) (a2 : Int32) (x3_5 : Int32) (x4_5 : Int32) : Option (Int32) := if 3 ≤ x4_5 then (some x3_5) else (if (a1 * 3) + x4_5 < 0 ∨ 18 ≤ Int32.toNatClampNeg ((a1 * 3) + x4_5) then none else (if (a2 * 3) + x4_5 < 0 ∨ 18 ≤ Int32.toNatClampNeg ((a2 * 3) + x4_5) then none else (if v 7 i0 (Int32.toNatClampNeg ((a1 * 3) + x4_5)) = v 7 i0 (Int32.toNatClampNeg ((a2 * 3) + x4_5)) then (rec5 x3_5 (x4_5 + 1)) else (rec5 (x3_5 + 1) (x4_5 + 1)))))
def g_X2_distance_L5  (v : Mm) (i0 : Nat) (a1 : Int32) (a2 : Int32) : Nat → Int32 → Int32 → Option (Int32)
  | 0 => fun _ _ => none
  | n + 1 => b_X2_distance_L5  (g_X2_distance_L5  v i0 a1 a2 n) v i0 a1 a2
def g_X2_distance (v : Mm) (i0 : Nat) (a1 : Int32) (a2 : Int32) : Option (Int32) := g_X2_distance_L5  v i0 a1 a2 2000 0 0
set_option maxHeartbeats 4000000 in
set_option maxRecDepth 100000 in
theorem d_X2_distance (l : Launch) (E : kq_T) (Z : km_Z) (v : Mm) (i0 : Nat) (h_i0 : i0 < cntX 6) (a1 : Int32) (a2 : Int32) (hs : g_X2_distance v i0 a1 a2 ≠ none) : km_I l E Z cntX yX2_distance wsX2_distance rmX2_distance [.ref (Z.1 6 i0), .int a1, .int a2] v (fun r v1 => g_X2_distance v i0 a1 a2 = some r ∧ v = v1) := by
  refine km_goI (cc := cX2_distance) (maxL := 5) (by decide) rfl (Nat.le_of_ble_eq_true rfl) rfl rfl rfl ?_
  intro p e s m below meth c A ls Q C hK hw hl hret
  obtain ⟨hx, hb, hml, hown, hts, -, -, -⟩ := C
  have hown : s.vm.findClass RX2 = some m.cls := hown
  have hl : lv_has ls 5 [(0, .ref (Z.1 6 i0)), (1, .int a1), (2, .int a2)] := hl
  have hF := g_X2_distance.eq_1 v i0 a1 a2
  have loop5 : ∀ (n5 : Nat) (x3_5 : Int32) (x4_5 : Int32) (H : Heap) (locs : List Loc) (ls : Array Slot), g_X2_distance v i0 a1 a2 = g_X2_distance_L5  v i0 a1 a2 n5 x3_5 x4_5 → km_w E A s.heap [] Z cntX v H locs → lv_has ls 5 [(0, .ref (Z.1 6 i0)), (1, .int a1), (2, .int a2), (3, .int x3_5), (4, .int x4_5)] → W p l e rmX2_distance s m [.ref (Z.1 6 i0), .int a1, .int a2].toArray below meth c H locs 0 0 Q (F0 m 5 ls []) := by
    intro n5
    induction n5 with
    | zero => intro x3_5 x4_5 H locs ls hF hw hl; exact absurd (show g_X2_distance v i0 a1 a2 = none from hF) hs
    | succ n5 ih5 =>
      intro x3_5 x4_5 H locs ls hF hw hl
      have hF := hF.trans (b_X2_distance_L5.eq_1  (g_X2_distance_L5  v i0 a1 a2 n5) v i0 a1 a2 x3_5 x4_5)
      refine lv_iload hx hb dX2_distance_5 (lv_at hl 4 rfl) ?_
      refine lv_iconst (v := 3) hx hb dX2_distance_7 (by decide) ?_
      refine lv_icmp_ge (tgt := 45) hx hb dX2_distance_8 (by decide) (fun c1 => ?_) (fun c1 => ?_)
      · skip
        have hF := hF.trans (if_pos c1)
        refine lv_iload_n hx hb dX2_distance_45 rfl (lv_at hl 3 rfl) ?_
        exact hret _ _ _ _ _ _ hw dX2_distance_46 ⟨hF, rfl⟩
      · skip
        have hF := hF.trans (if_neg c1)
        refine lv_aload_n hx hb dX2_distance_11 rfl (lv_at hl 0 rfl) ?_
        refine km_get (ci := 2) (C := RX2) (T := TX2) (N := 8) (t := 6) (i := i0) hx hb hts fi_X2_distance_X2 hown hK hw (by decide) h_i0 rfl rfl 0 (by decide) (hts (.fieldLink RX2 9 "WrongWord$Gate" "letters" "[I") ow_X2_distance_9) rfl dX2_distance_12 ?_
        refine lv_iload_n hx hb dX2_distance_15 rfl (lv_at hl 1 rfl) ?_
        refine lv_iconst (v := 3) hx hb dX2_distance_16 (by decide) ?_
        refine lv_imul hx hb dX2_distance_17 ?_
        refine lv_iload hx hb dX2_distance_18 (lv_at hl 4 rfl) ?_
        refine lv_iadd hx hb dX2_distance_20 ?_
        have hb2 : ¬ ((a1 * 3) + x4_5 < 0 ∨ 18 ≤ Int32.toNatClampNeg ((a1 * 3) + x4_5)) := fun q => hs (hF.trans (if_pos q))
        have hF := hF.trans (if_neg hb2)
        refine km_iald (t := 7) (i := i0) hx hb hK hw (by decide) h_i0 rfl hb2 dX2_distance_21 ?_
        refine lv_aload_n hx hb dX2_distance_22 rfl (lv_at hl 0 rfl) ?_
        refine km_get (ci := 2) (C := RX2) (T := TX2) (N := 8) (t := 6) (i := i0) hx hb hts fi_X2_distance_X2 hown hK hw (by decide) h_i0 rfl rfl 0 (by decide) (hts (.fieldLink RX2 9 "WrongWord$Gate" "letters" "[I") ow_X2_distance_9) rfl dX2_distance_23 ?_
        refine lv_iload_n hx hb dX2_distance_26 rfl (lv_at hl 2 rfl) ?_
        refine lv_iconst (v := 3) hx hb dX2_distance_27 (by decide) ?_
        refine lv_imul hx hb dX2_distance_28 ?_
        refine lv_iload hx hb dX2_distance_29 (lv_at hl 4 rfl) ?_
        refine lv_iadd hx hb dX2_distance_31 ?_
        have hb3 : ¬ ((a2 * 3) + x4_5 < 0 ∨ 18 ≤ Int32.toNatClampNeg ((a2 * 3) + x4_5)) := fun q => hs (hF.trans (if_pos q))
        have hF := hF.trans (if_neg hb3)
        refine km_iald (t := 7) (i := i0) hx hb hK hw (by decide) h_i0 rfl hb3 dX2_distance_32 ?_
        refine lv_icmp_eq (tgt := 39) hx hb dX2_distance_33 (by decide) (fun c4 => ?_) (fun c4 => ?_)
        · skip
          have hF := hF.trans (if_pos c4)
          refine lv_iinc (v := x4_5 + 1) (lv' := [(4, .int (x4_5 + 1)), (0, .ref (Z.1 6 i0)), (1, .int a1), (2, .int a2), (3, .int x3_5)]) hx hb dX2_distance_39 hl (k := 4) rfl rfl (by decide) rfl (fun ls hl => ?_)
          refine lv_goto (tgt := 5) hx hb dX2_distance_42 (by decide) ?_
          have hl := lv_sub (l' := [(0, .ref (Z.1 6 i0)), (1, .int a1), (2, .int a2), (3, .int x3_5), (4, .int (x4_5 + 1))]) hl [1, 2, 3, 4, 0] rfl
          exact ih5 x3_5 (x4_5 + 1) _ _ _ hF hw hl
        · skip
          have hF := hF.trans (if_neg c4)
          refine lv_iinc (v := x3_5 + 1) (lv' := [(3, .int (x3_5 + 1)), (0, .ref (Z.1 6 i0)), (1, .int a1), (2, .int a2), (4, .int x4_5)]) hx hb dX2_distance_36 hl (k := 3) rfl rfl (by decide) rfl (fun ls hl => ?_)
          refine lv_iinc (v := x4_5 + 1) (lv' := [(4, .int (x4_5 + 1)), (3, .int (x3_5 + 1)), (0, .ref (Z.1 6 i0)), (1, .int a1), (2, .int a2)]) hx hb dX2_distance_39 hl (k := 4) rfl rfl (by decide) rfl (fun ls hl => ?_)
          refine lv_goto (tgt := 5) hx hb dX2_distance_42 (by decide) ?_
          have hl := lv_sub (l' := [(0, .ref (Z.1 6 i0)), (1, .int a1), (2, .int a2), (3, .int (x3_5 + 1)), (4, .int (x4_5 + 1))]) hl [2, 3, 4, 1, 0] rfl
          exact ih5 (x3_5 + 1) (x4_5 + 1) _ _ _ hF hw hl
  refine lv_iconst (v := 0) hx hb dX2_distance_0 (by decide) ?_
  refine lv_istore_n (lv' := [(3, .int 0), (0, .ref (Z.1 6 i0)), (1, .int a1), (2, .int a2)]) hx hb dX2_distance_1 rfl hl (by decide) rfl (fun ls hl => ?_)
  refine lv_iconst (v := 0) hx hb dX2_distance_2 (by decide) ?_
  refine lv_istore (lv' := [(4, .int 0), (3, .int 0), (0, .ref (Z.1 6 i0)), (1, .int a1), (2, .int a2)]) hx hb dX2_distance_3 hl (by decide) rfl (fun ls hl => ?_)
  have hl := lv_sub (l' := [(0, .ref (Z.1 6 i0)), (1, .int a1), (2, .int a2), (3, .int 0), (4, .int 0)]) hl [2, 3, 4, 1, 0] rfl
  exact loop5 2000 0 0 _ _ _ hF hw hl
abbrev rmX2_lips : Room := { frames := 0, cells := 0, slots := 0, locals := 0 }
def b_X2_lips_L5  (rec5 : Int32 → Int32 → Option (Int32)) (v : Mm) (i0 : Nat) (a1 : Int32) (a2 : Int32) (x3_5 : Int32) (x4_5 : Int32) : Option (Int32) := if 3 ≤ x4_5 then (some x3_5) else (if (a1 * 3) + x4_5 < 0 ∨ 18 ≤ Int32.toNatClampNeg ((a1 * 3) + x4_5) then none else (if (a2 * 3) + x4_5 < 0 ∨ 18 ≤ Int32.toNatClampNeg ((a2 * 3) + x4_5) then none else (if (v 7 i0 (Int32.toNatClampNeg ((a1 * 3) + x4_5))) - (v 7 i0 (Int32.toNatClampNeg ((a1 * 3) + x4_5))) / 5 * 5 = (v 7 i0 (Int32.toNatClampNeg ((a2 * 3) + x4_5))) - (v 7 i0 (Int32.toNatClampNeg ((a2 * 3) + x4_5))) / 5 * 5 then (rec5 (x3_5 + 1) (x4_5 + 1)) else (rec5 x3_5 (x4_5 + 1)))))
def g_X2_lips_L5  (v : Mm) (i0 : Nat) (a1 : Int32) (a2 : Int32) : Nat → Int32 → Int32 → Option (Int32)
  | 0 => fun _ _ => none
  | n + 1 => b_X2_lips_L5  (g_X2_lips_L5  v i0 a1 a2 n) v i0 a1 a2
def g_X2_lips (v : Mm) (i0 : Nat) (a1 : Int32) (a2 : Int32) : Option (Int32) := g_X2_lips_L5  v i0 a1 a2 2000 0 0
set_option maxHeartbeats 4000000 in
set_option maxRecDepth 100000 in
theorem d_X2_lips (l : Launch) (E : kq_T) (Z : km_Z) (v : Mm) (i0 : Nat) (h_i0 : i0 < cntX 6) (a1 : Int32) (a2 : Int32) (hs : g_X2_lips v i0 a1 a2 ≠ none) : km_I l E Z cntX yX2_lips wsX2_lips rmX2_lips [.ref (Z.1 6 i0), .int a1, .int a2] v (fun r v1 => g_X2_lips v i0 a1 a2 = some r ∧ v = v1) := by
  refine km_goI (cc := cX2_lips) (maxL := 5) (by decide) rfl (Nat.le_of_ble_eq_true rfl) rfl rfl rfl ?_
  intro p e s m below meth c A ls Q C hK hw hl hret
  obtain ⟨hx, hb, hml, hown, hts, -, -, -⟩ := C
  have hown : s.vm.findClass RX2 = some m.cls := hown
  have hl : lv_has ls 5 [(0, .ref (Z.1 6 i0)), (1, .int a1), (2, .int a2)] := hl
  have hF := g_X2_lips.eq_1 v i0 a1 a2
  have loop5 : ∀ (n5 : Nat) (x3_5 : Int32) (x4_5 : Int32) (H : Heap) (locs : List Loc) (ls : Array Slot), g_X2_lips v i0 a1 a2 = g_X2_lips_L5  v i0 a1 a2 n5 x3_5 x4_5 → km_w E A s.heap [] Z cntX v H locs → lv_has ls 5 [(0, .ref (Z.1 6 i0)), (1, .int a1), (2, .int a2), (3, .int x3_5), (4, .int x4_5)] → W p l e rmX2_lips s m [.ref (Z.1 6 i0), .int a1, .int a2].toArray below meth c H locs 0 0 Q (F0 m 5 ls []) := by
    intro n5
    induction n5 with
    | zero => intro x3_5 x4_5 H locs ls hF hw hl; exact absurd (show g_X2_lips v i0 a1 a2 = none from hF) hs
    | succ n5 ih5 =>
      intro x3_5 x4_5 H locs ls hF hw hl
      have hF := hF.trans (b_X2_lips_L5.eq_1  (g_X2_lips_L5  v i0 a1 a2 n5) v i0 a1 a2 x3_5 x4_5)
      refine lv_iload hx hb dX2_lips_5 (lv_at hl 4 rfl) ?_
      refine lv_iconst (v := 3) hx hb dX2_lips_7 (by decide) ?_
      refine lv_icmp_ge (tgt := 49) hx hb dX2_lips_8 (by decide) (fun c1 => ?_) (fun c1 => ?_)
      · skip
        have hF := hF.trans (if_pos c1)
        refine lv_iload_n hx hb dX2_lips_49 rfl (lv_at hl 3 rfl) ?_
        exact hret _ _ _ _ _ _ hw dX2_lips_50 ⟨hF, rfl⟩
      · skip
        have hF := hF.trans (if_neg c1)
        refine lv_aload_n hx hb dX2_lips_11 rfl (lv_at hl 0 rfl) ?_
        refine km_get (ci := 2) (C := RX2) (T := TX2) (N := 8) (t := 6) (i := i0) hx hb hts fi_X2_lips_X2 hown hK hw (by decide) h_i0 rfl rfl 0 (by decide) (hts (.fieldLink RX2 9 "WrongWord$Gate" "letters" "[I") ow_X2_lips_9) rfl dX2_lips_12 ?_
        refine lv_iload_n hx hb dX2_lips_15 rfl (lv_at hl 1 rfl) ?_
        refine lv_iconst (v := 3) hx hb dX2_lips_16 (by decide) ?_
        refine lv_imul hx hb dX2_lips_17 ?_
        refine lv_iload hx hb dX2_lips_18 (lv_at hl 4 rfl) ?_
        refine lv_iadd hx hb dX2_lips_20 ?_
        have hb2 : ¬ ((a1 * 3) + x4_5 < 0 ∨ 18 ≤ Int32.toNatClampNeg ((a1 * 3) + x4_5)) := fun q => hs (hF.trans (if_pos q))
        have hF := hF.trans (if_neg hb2)
        refine km_iald (t := 7) (i := i0) hx hb hK hw (by decide) h_i0 rfl hb2 dX2_lips_21 ?_
        refine lv_iconst (v := 5) hx hb dX2_lips_22 (by decide) ?_
        refine lv_irem hx hb dX2_lips_23 (by decide) ?_
        refine lv_aload_n hx hb dX2_lips_24 rfl (lv_at hl 0 rfl) ?_
        refine km_get (ci := 2) (C := RX2) (T := TX2) (N := 8) (t := 6) (i := i0) hx hb hts fi_X2_lips_X2 hown hK hw (by decide) h_i0 rfl rfl 0 (by decide) (hts (.fieldLink RX2 9 "WrongWord$Gate" "letters" "[I") ow_X2_lips_9) rfl dX2_lips_25 ?_
        refine lv_iload_n hx hb dX2_lips_28 rfl (lv_at hl 2 rfl) ?_
        refine lv_iconst (v := 3) hx hb dX2_lips_29 (by decide) ?_
        refine lv_imul hx hb dX2_lips_30 ?_
        refine lv_iload hx hb dX2_lips_31 (lv_at hl 4 rfl) ?_
        refine lv_iadd hx hb dX2_lips_33 ?_
        have hb3 : ¬ ((a2 * 3) + x4_5 < 0 ∨ 18 ≤ Int32.toNatClampNeg ((a2 * 3) + x4_5)) := fun q => hs (hF.trans (if_pos q))
        have hF := hF.trans (if_neg hb3)
        refine km_iald (t := 7) (i := i0) hx hb hK hw (by decide) h_i0 rfl hb3 dX2_lips_34 ?_
        refine lv_iconst (v := 5) hx hb dX2_lips_35 (by decide) ?_
        refine lv_irem hx hb dX2_lips_36 (by decide) ?_
        refine lv_icmp_ne (tgt := 43) hx hb dX2_lips_37 (by decide) (fun c4 => ?_) (fun c4 => ?_)
        · skip
          have hF := hF.trans (if_neg c4)
          refine lv_iinc (v := x4_5 + 1) (lv' := [(4, .int (x4_5 + 1)), (0, .ref (Z.1 6 i0)), (1, .int a1), (2, .int a2), (3, .int x3_5)]) hx hb dX2_lips_43 hl (k := 4) rfl rfl (by decide) rfl (fun ls hl => ?_)
          refine lv_goto (tgt := 5) hx hb dX2_lips_46 (by decide) ?_
          have hl := lv_sub (l' := [(0, .ref (Z.1 6 i0)), (1, .int a1), (2, .int a2), (3, .int x3_5), (4, .int (x4_5 + 1))]) hl [1, 2, 3, 4, 0] rfl
          exact ih5 x3_5 (x4_5 + 1) _ _ _ hF hw hl
        · skip
          have hF := hF.trans (if_pos c4)
          refine lv_iinc (v := x3_5 + 1) (lv' := [(3, .int (x3_5 + 1)), (0, .ref (Z.1 6 i0)), (1, .int a1), (2, .int a2), (4, .int x4_5)]) hx hb dX2_lips_40 hl (k := 3) rfl rfl (by decide) rfl (fun ls hl => ?_)
          refine lv_iinc (v := x4_5 + 1) (lv' := [(4, .int (x4_5 + 1)), (3, .int (x3_5 + 1)), (0, .ref (Z.1 6 i0)), (1, .int a1), (2, .int a2)]) hx hb dX2_lips_43 hl (k := 4) rfl rfl (by decide) rfl (fun ls hl => ?_)
          refine lv_goto (tgt := 5) hx hb dX2_lips_46 (by decide) ?_
          have hl := lv_sub (l' := [(0, .ref (Z.1 6 i0)), (1, .int a1), (2, .int a2), (3, .int (x3_5 + 1)), (4, .int (x4_5 + 1))]) hl [2, 3, 4, 1, 0] rfl
          exact ih5 (x3_5 + 1) (x4_5 + 1) _ _ _ hF hw hl
  refine lv_iconst (v := 0) hx hb dX2_lips_0 (by decide) ?_
  refine lv_istore_n (lv' := [(3, .int 0), (0, .ref (Z.1 6 i0)), (1, .int a1), (2, .int a2)]) hx hb dX2_lips_1 rfl hl (by decide) rfl (fun ls hl => ?_)
  refine lv_iconst (v := 0) hx hb dX2_lips_2 (by decide) ?_
  refine lv_istore (lv' := [(4, .int 0), (3, .int 0), (0, .ref (Z.1 6 i0)), (1, .int a1), (2, .int a2)]) hx hb dX2_lips_3 hl (by decide) rfl (fun ls hl => ?_)
  have hl := lv_sub (l' := [(0, .ref (Z.1 6 i0)), (1, .int a1), (2, .int a2), (3, .int 0), (4, .int 0)]) hl [2, 3, 4, 1, 0] rfl
  exact loop5 2000 0 0 _ _ _ hF hw hl
abbrev rmX2_guardOn : Room := { frames := 1, cells := 0, slots := 0, locals := 21 }
def g_X2_guardOn (v : Mm) (i0 : Nat) (a1 : Int32) (a2 : Int32) : Option (Int32) := Option.bind (g_X7_rest v (a1 + a2) (v 6 i0 7)) (fun r2 => some r2)
set_option maxHeartbeats 4000000 in
set_option maxRecDepth 100000 in
theorem d_X2_guardOn (l : Launch) (E : kq_T) (Z : km_Z) (v : Mm) (i0 : Nat) (h_i0 : i0 < cntX 6) (a1 : Int32) (a2 : Int32) (hs : g_X2_guardOn v i0 a1 a2 ≠ none) : km_I l E Z cntX yX2_guardOn wsX2_guardOn rmX2_guardOn [.ref (Z.1 6 i0), .int a1, .int a2] v (fun r v1 => g_X2_guardOn v i0 a1 a2 = some r ∧ v = v1) := by
  refine km_goI (cc := cX2_guardOn) (maxL := 3) (by decide) rfl (Nat.le_of_ble_eq_true rfl) rfl rfl rfl ?_
  intro p e s m below meth c A ls Q C hK hw hl hret
  obtain ⟨hx, hb, hml, hown, hts, -, -, -⟩ := C
  have hown : s.vm.findClass RX2 = some m.cls := hown
  have hl : lv_has ls 3 [(0, .ref (Z.1 6 i0)), (1, .int a1), (2, .int a2)] := hl
  have hF := g_X2_guardOn.eq_1 v i0 a1 a2
  refine lv_iload_n hx hb dX2_guardOn_0 rfl (lv_at hl 1 rfl) ?_
  refine lv_iload_n hx hb dX2_guardOn_1 rfl (lv_at hl 2 rfl) ?_
  refine lv_iadd hx hb dX2_guardOn_2 ?_
  refine lv_aload_n hx hb dX2_guardOn_3 rfl (lv_at hl 0 rfl) ?_
  refine km_get (ci := 2) (C := RX2) (T := TX2) (N := 8) (t := 6) (i := i0) hx hb hts fi_X2_guardOn_X2 hown hK hw (by decide) h_i0 rfl rfl 7 (by decide) (hts (.fieldLink RX2 48 "WrongWord$Gate" "guards" "I") ow_X2_guardOn_48) rfl dX2_guardOn_4 ?_
  have hs1 : g_X7_rest v (a1 + a2) (v 6 i0 7) ≠ none := fun q => hs (hF.trans (kb_n q _))
  refine km_cSN (As := [.int (a1 + a2), .int (v 6 i0 7)]) (rest := []) (n := 2) ⟨hx, hb, hml, hown, hts⟩ (d_X7_rest l E Z v (a1 + a2) (v 6 i0 7) hs1) gX2_guardOn_X7_rest_n51 rfl (hts (.initialized RX7) (by decide +kernel)) (by decide +kernel) (hts (.static yX7_rest) (by decide +kernel)) (by decide +kernel) ⟨Nat.le_of_ble_eq_true rfl, Nat.le_of_ble_eq_true rfl⟩ hK hw rfl hl.1 rfl (Nat.le_of_ble_eq_true rfl) dX2_guardOn_7 rfl rfl (fun r2 v3 H locs hp hw => ?_)
  obtain ⟨hp, rfl⟩ := hp
  have hF := hF.trans (kb_some hp _)
  exact hret _ _ _ _ _ _ hw dX2_guardOn_10 ⟨hF, rfl⟩
abbrev rmX2_isThere : Room := { frames := 0, cells := 0, slots := 0, locals := 0 }
def g_X2_isThere (v : Mm) (i0 : Nat) (a1 : Int32) : Option (Int32) := if ((v 10 i0 6) >>> (a1 &&& 31)) &&& 1 = 1 then (some 1) else (some 0)
set_option maxHeartbeats 4000000 in
set_option maxRecDepth 100000 in
theorem d_X2_isThere (l : Launch) (E : kq_T) (Z : km_Z) (v : Mm) (i0 : Nat) (h_i0 : i0 < cntX 6) (a1 : Int32) (hs : g_X2_isThere v i0 a1 ≠ none) : km_I l E Z cntX yX2_isThere wsX2_isThere rmX2_isThere [.ref (Z.1 6 i0), .int a1] v (fun r v1 => (g_X2_isThere v i0 a1 = some r ∧ v = v1) ∧ (r = 0 ∨ r = 1)) := by
  refine km_goZ (cc := cX2_isThere) (maxL := 2) (post := fun r v1 => g_X2_isThere v i0 a1 = some r ∧ v = v1) (by decide) rfl (Nat.le_of_ble_eq_true rfl) rfl rfl rfl ?_
  intro p e s m below meth c A ls Q C hK hw hl hret
  obtain ⟨hx, hb, hml, hown, hts, -, -, -⟩ := C
  have hown : s.vm.findClass RX2 = some m.cls := hown
  have hl : lv_has ls 2 [(0, .ref (Z.1 6 i0)), (1, .int a1)] := hl
  have hF := g_X2_isThere.eq_1 v i0 a1
  refine lv_aload_n hx hb dX2_isThere_0 rfl (lv_at hl 0 rfl) ?_
  refine km_get (ci := 2) (C := RX2) (T := TX2) (N := 8) (t := 6) (i := i0) hx hb hts fi_X2_isThere_X2 hown hK hw (by decide) h_i0 rfl rfl 3 (by decide) (hts (.fieldLink RX2 24 "WrongWord$Gate" "now" "LWrongWord$Moment;") ow_X2_isThere_24) rfl dX2_isThere_1 ?_
  refine km_get (ci := 4) (C := RX4) (T := TX4) (N := 8) (t := 10) (i := i0) hx hb hts fi_X2_isThere_X4 hown hK hw (by decide) (Nat.lt_of_lt_of_le (show i0 < cntX 6 from h_i0) (by decide)) rfl rfl 6 (by decide) (hts (.fieldLink RX2 65 "WrongWord$Moment" "there" "I") ow_X2_isThere_65) rfl dX2_isThere_4 ?_
  refine lv_iload_n hx hb dX2_isThere_7 rfl (lv_at hl 1 rfl) ?_
  refine lv_ishr hx hb dX2_isThere_8 ?_
  refine lv_iconst (v := 1) hx hb dX2_isThere_9 (by decide) ?_
  refine lv_iand hx hb dX2_isThere_10 ?_
  refine lv_iconst (v := 1) hx hb dX2_isThere_11 (by decide) ?_
  refine lv_icmp_ne (tgt := 19) hx hb dX2_isThere_12 (by decide) (fun c1 => ?_) (fun c1 => ?_)
  · skip
    have hF := hF.trans (if_neg c1)
    refine lv_iconst (v := 0) hx hb dX2_isThere_19 (by decide) ?_
    exact hret _ _ _ _ _ _ hw dX2_isThere_20 (Or.inl rfl) ⟨hF, rfl⟩
  · skip
    have hF := hF.trans (if_pos c1)
    refine lv_iconst (v := 1) hx hb dX2_isThere_15 (by decide) ?_
    refine lv_goto (tgt := 20) hx hb dX2_isThere_16 (by decide) ?_
    exact hret _ _ _ _ _ _ hw dX2_isThere_20 (Or.inr rfl) ⟨hF, rfl⟩
abbrev rmX2_wouldTake : Room := { frames := 1, cells := 0, slots := 0, locals := 24 }
def g_X2_wouldTake (v : Mm) (i0 : Nat) (a1 : Int32) (a2 : Int32) (a3 : Int32) (a4 : Int32) : Option (Int32) := if a1 = 1 then (Option.bind (g_X2_distance v i0 a2 a3) (fun r3 => if r3 = 0 then (some 1) else (some 0))) else (if a1 = 2 then (Option.bind (g_X2_distance v i0 a2 a3) (fun r8 => if 1 < r8 then (some 0) else (some 1))) else (if a1 = 3 then (if a4 - a4 / 2 * 2 = 0 then (Option.bind (g_X2_distance v i0 a2 a3) (fun r14 => if r14 = 0 then (some 1) else (some 0))) else (some 0)) else (if a1 = 4 then (Option.bind (g_X2_lips v i0 a2 a3) (fun r19 => if r19 = 3 then (some 1) else (some 0))) else (if a1 = 5 then (Option.bind (g_X2_lips v i0 a2 a3) (fun r24 => if r24 < 2 then (some 0) else (some 1))) else (some 0)))))
set_option maxHeartbeats 4000000 in
set_option maxRecDepth 100000 in
theorem d_X2_wouldTake (l : Launch) (E : kq_T) (Z : km_Z) (v : Mm) (i0 : Nat) (h_i0 : i0 < cntX 6) (a1 : Int32) (a2 : Int32) (a3 : Int32) (a4 : Int32) (hs : g_X2_wouldTake v i0 a1 a2 a3 a4 ≠ none) : km_I l E Z cntX yX2_wouldTake wsX2_wouldTake rmX2_wouldTake [.ref (Z.1 6 i0), .int a1, .int a2, .int a3, .int a4] v (fun r v1 => (g_X2_wouldTake v i0 a1 a2 a3 a4 = some r ∧ v = v1) ∧ (r = 0 ∨ r = 1)) := by
  refine km_goZ (cc := cX2_wouldTake) (maxL := 5) (post := fun r v1 => g_X2_wouldTake v i0 a1 a2 a3 a4 = some r ∧ v = v1) (by decide) rfl (Nat.le_of_ble_eq_true rfl) rfl rfl rfl ?_
  intro p e s m below meth c A ls Q C hK hw hl hret
  obtain ⟨hx, hb, hml, hown, hts, -, -, -⟩ := C
  have hown : s.vm.findClass RX2 = some m.cls := hown
  have hl : lv_has ls 5 [(0, .ref (Z.1 6 i0)), (1, .int a1), (2, .int a2), (3, .int a3), (4, .int a4)] := hl
  have hF := g_X2_wouldTake.eq_1 v i0 a1 a2 a3 a4
  refine lv_iload_n hx hb dX2_wouldTake_0 rfl (lv_at hl 1 rfl) ?_
  by_cases c1 : a1 = 1
  · skip
    have hF := hF.trans (if_pos c1)
    refine lv_tableIn (tgt := 36) (off := 35) hx hb dX2_wouldTake_1 (by rw [c1]; decide) (by rw [c1]; decide) (by rw [c1]; rfl) (by decide) ?_
    refine lv_aload_n hx hb dX2_wouldTake_36 rfl (lv_at hl 0 rfl) ?_
    refine lv_iload_n hx hb dX2_wouldTake_37 rfl (lv_at hl 2 rfl) ?_
    refine lv_iload_n hx hb dX2_wouldTake_38 rfl (lv_at hl 3 rfl) ?_
    have hs2 : g_X2_distance v i0 a2 a3 ≠ none := fun q => hs (hF.trans (kb_n q _))
    refine km_cI (As := [.int a2, .int a3]) (rest := []) (n := 2) (q := (RX2, TX2, 8)) (ci := 2) (t := 6) (i := i0) ⟨hx, hb, hml, hown, hts⟩ (d_X2_distance l E Z v i0 h_i0 a2 a3 hs2) gX2_wouldTake_X2_distance rfl hV_X2_distance ⟨Nat.le_of_ble_eq_true rfl, Nat.le_of_ble_eq_true rfl⟩ hK hw (by decide) h_i0 rfl rfl rfl hl.1 rfl (Nat.le_of_ble_eq_true rfl) dX2_wouldTake_39 rfl rfl (fun r3 v4 H locs hp hw => ?_)
    obtain ⟨hp, rfl⟩ := hp
    have hF := hF.trans (kb_some hp _)
    refine lv_if_ne (tgt := 49) hx hb dX2_wouldTake_42 (by decide) (fun c5 => ?_) (fun c5 => ?_)
    · skip
      have hF := hF.trans (if_neg c5)
      refine lv_iconst (v := 0) hx hb dX2_wouldTake_49 (by decide) ?_
      exact hret _ _ _ _ _ _ hw dX2_wouldTake_50 (Or.inl rfl) ⟨hF, rfl⟩
    · skip
      have hF := hF.trans (if_pos c5)
      refine lv_iconst (v := 1) hx hb dX2_wouldTake_45 (by decide) ?_
      refine lv_goto (tgt := 50) hx hb dX2_wouldTake_46 (by decide) ?_
      exact hret _ _ _ _ _ _ hw dX2_wouldTake_50 (Or.inr rfl) ⟨hF, rfl⟩
  have hF := hF.trans (if_neg c1)
  by_cases c6 : a1 = 2
  · skip
    have hF := hF.trans (if_pos c6)
    refine lv_tableIn (tgt := 51) (off := 50) hx hb dX2_wouldTake_1 (by rw [c6]; decide) (by rw [c6]; decide) (by rw [c6]; rfl) (by decide) ?_
    refine lv_aload_n hx hb dX2_wouldTake_51 rfl (lv_at hl 0 rfl) ?_
    refine lv_iload_n hx hb dX2_wouldTake_52 rfl (lv_at hl 2 rfl) ?_
    refine lv_iload_n hx hb dX2_wouldTake_53 rfl (lv_at hl 3 rfl) ?_
    have hs7 : g_X2_distance v i0 a2 a3 ≠ none := fun q => hs (hF.trans (kb_n q _))
    refine km_cI (As := [.int a2, .int a3]) (rest := []) (n := 2) (q := (RX2, TX2, 8)) (ci := 2) (t := 6) (i := i0) ⟨hx, hb, hml, hown, hts⟩ (d_X2_distance l E Z v i0 h_i0 a2 a3 hs7) gX2_wouldTake_X2_distance rfl hV_X2_distance ⟨Nat.le_of_ble_eq_true rfl, Nat.le_of_ble_eq_true rfl⟩ hK hw (by decide) h_i0 rfl rfl rfl hl.1 rfl (Nat.le_of_ble_eq_true rfl) dX2_wouldTake_54 rfl rfl (fun r8 v9 H locs hp hw => ?_)
    obtain ⟨hp, rfl⟩ := hp
    have hF := hF.trans (kb_some hp _)
    refine lv_iconst (v := 1) hx hb dX2_wouldTake_57 (by decide) ?_
    refine lv_icmp_gt (tgt := 65) hx hb dX2_wouldTake_58 (by decide) (fun c10 => ?_) (fun c10 => ?_)
    · skip
      have hF := hF.trans (if_pos c10)
      refine lv_iconst (v := 0) hx hb dX2_wouldTake_65 (by decide) ?_
      exact hret _ _ _ _ _ _ hw dX2_wouldTake_66 (Or.inl rfl) ⟨hF, rfl⟩
    · skip
      have hF := hF.trans (if_neg c10)
      refine lv_iconst (v := 1) hx hb dX2_wouldTake_61 (by decide) ?_
      refine lv_goto (tgt := 66) hx hb dX2_wouldTake_62 (by decide) ?_
      exact hret _ _ _ _ _ _ hw dX2_wouldTake_66 (Or.inr rfl) ⟨hF, rfl⟩
  have hF := hF.trans (if_neg c6)
  by_cases c11 : a1 = 3
  · skip
    have hF := hF.trans (if_pos c11)
    refine lv_tableIn (tgt := 67) (off := 66) hx hb dX2_wouldTake_1 (by rw [c11]; decide) (by rw [c11]; decide) (by rw [c11]; rfl) (by decide) ?_
    refine lv_iload hx hb dX2_wouldTake_67 (lv_at hl 4 rfl) ?_
    refine lv_iconst (v := 2) hx hb dX2_wouldTake_69 (by decide) ?_
    refine lv_irem hx hb dX2_wouldTake_70 (by decide) ?_
    refine lv_if_ne (tgt := 87) hx hb dX2_wouldTake_71 (by decide) (fun c12 => ?_) (fun c12 => ?_)
    · skip
      have hF := hF.trans (if_neg c12)
      refine lv_iconst (v := 0) hx hb dX2_wouldTake_87 (by decide) ?_
      exact hret _ _ _ _ _ _ hw dX2_wouldTake_88 (Or.inl rfl) ⟨hF, rfl⟩
    · skip
      have hF := hF.trans (if_pos c12)
      refine lv_aload_n hx hb dX2_wouldTake_74 rfl (lv_at hl 0 rfl) ?_
      refine lv_iload_n hx hb dX2_wouldTake_75 rfl (lv_at hl 2 rfl) ?_
      refine lv_iload_n hx hb dX2_wouldTake_76 rfl (lv_at hl 3 rfl) ?_
      have hs13 : g_X2_distance v i0 a2 a3 ≠ none := fun q => hs (hF.trans (kb_n q _))
      refine km_cI (As := [.int a2, .int a3]) (rest := []) (n := 2) (q := (RX2, TX2, 8)) (ci := 2) (t := 6) (i := i0) ⟨hx, hb, hml, hown, hts⟩ (d_X2_distance l E Z v i0 h_i0 a2 a3 hs13) gX2_wouldTake_X2_distance rfl hV_X2_distance ⟨Nat.le_of_ble_eq_true rfl, Nat.le_of_ble_eq_true rfl⟩ hK hw (by decide) h_i0 rfl rfl rfl hl.1 rfl (Nat.le_of_ble_eq_true rfl) dX2_wouldTake_77 rfl rfl (fun r14 v15 H locs hp hw => ?_)
      obtain ⟨hp, rfl⟩ := hp
      have hF := hF.trans (kb_some hp _)
      refine lv_if_ne (tgt := 87) hx hb dX2_wouldTake_80 (by decide) (fun c16 => ?_) (fun c16 => ?_)
      · skip
        have hF := hF.trans (if_neg c16)
        refine lv_iconst (v := 0) hx hb dX2_wouldTake_87 (by decide) ?_
        exact hret _ _ _ _ _ _ hw dX2_wouldTake_88 (Or.inl rfl) ⟨hF, rfl⟩
      · skip
        have hF := hF.trans (if_pos c16)
        refine lv_iconst (v := 1) hx hb dX2_wouldTake_83 (by decide) ?_
        refine lv_goto (tgt := 88) hx hb dX2_wouldTake_84 (by decide) ?_
        exact hret _ _ _ _ _ _ hw dX2_wouldTake_88 (Or.inr rfl) ⟨hF, rfl⟩
  have hF := hF.trans (if_neg c11)
  by_cases c17 : a1 = 4
  · skip
    have hF := hF.trans (if_pos c17)
    refine lv_tableIn (tgt := 89) (off := 88) hx hb dX2_wouldTake_1 (by rw [c17]; decide) (by rw [c17]; decide) (by rw [c17]; rfl) (by decide) ?_
    refine lv_aload_n hx hb dX2_wouldTake_89 rfl (lv_at hl 0 rfl) ?_
    refine lv_iload_n hx hb dX2_wouldTake_90 rfl (lv_at hl 2 rfl) ?_
    refine lv_iload_n hx hb dX2_wouldTake_91 rfl (lv_at hl 3 rfl) ?_
    have hs18 : g_X2_lips v i0 a2 a3 ≠ none := fun q => hs (hF.trans (kb_n q _))
    refine km_cI (As := [.int a2, .int a3]) (rest := []) (n := 2) (q := (RX2, TX2, 8)) (ci := 2) (t := 6) (i := i0) ⟨hx, hb, hml, hown, hts⟩ (d_X2_lips l E Z v i0 h_i0 a2 a3 hs18) gX2_wouldTake_X2_lips rfl hV_X2_lips ⟨Nat.le_of_ble_eq_true rfl, Nat.le_of_ble_eq_true rfl⟩ hK hw (by decide) h_i0 rfl rfl rfl hl.1 rfl (Nat.le_of_ble_eq_true rfl) dX2_wouldTake_92 rfl rfl (fun r19 v20 H locs hp hw => ?_)
    obtain ⟨hp, rfl⟩ := hp
    have hF := hF.trans (kb_some hp _)
    refine lv_iconst (v := 3) hx hb dX2_wouldTake_95 (by decide) ?_
    refine lv_icmp_ne (tgt := 103) hx hb dX2_wouldTake_96 (by decide) (fun c21 => ?_) (fun c21 => ?_)
    · skip
      have hF := hF.trans (if_neg c21)
      refine lv_iconst (v := 0) hx hb dX2_wouldTake_103 (by decide) ?_
      exact hret _ _ _ _ _ _ hw dX2_wouldTake_104 (Or.inl rfl) ⟨hF, rfl⟩
    · skip
      have hF := hF.trans (if_pos c21)
      refine lv_iconst (v := 1) hx hb dX2_wouldTake_99 (by decide) ?_
      refine lv_goto (tgt := 104) hx hb dX2_wouldTake_100 (by decide) ?_
      exact hret _ _ _ _ _ _ hw dX2_wouldTake_104 (Or.inr rfl) ⟨hF, rfl⟩
  have hF := hF.trans (if_neg c17)
  by_cases c22 : a1 = 5
  · skip
    have hF := hF.trans (if_pos c22)
    refine lv_tableIn (tgt := 105) (off := 104) hx hb dX2_wouldTake_1 (by rw [c22]; decide) (by rw [c22]; decide) (by rw [c22]; rfl) (by decide) ?_
    refine lv_aload_n hx hb dX2_wouldTake_105 rfl (lv_at hl 0 rfl) ?_
    refine lv_iload_n hx hb dX2_wouldTake_106 rfl (lv_at hl 2 rfl) ?_
    refine lv_iload_n hx hb dX2_wouldTake_107 rfl (lv_at hl 3 rfl) ?_
    have hs23 : g_X2_lips v i0 a2 a3 ≠ none := fun q => hs (hF.trans (kb_n q _))
    refine km_cI (As := [.int a2, .int a3]) (rest := []) (n := 2) (q := (RX2, TX2, 8)) (ci := 2) (t := 6) (i := i0) ⟨hx, hb, hml, hown, hts⟩ (d_X2_lips l E Z v i0 h_i0 a2 a3 hs23) gX2_wouldTake_X2_lips rfl hV_X2_lips ⟨Nat.le_of_ble_eq_true rfl, Nat.le_of_ble_eq_true rfl⟩ hK hw (by decide) h_i0 rfl rfl rfl hl.1 rfl (Nat.le_of_ble_eq_true rfl) dX2_wouldTake_108 rfl rfl (fun r24 v25 H locs hp hw => ?_)
    obtain ⟨hp, rfl⟩ := hp
    have hF := hF.trans (kb_some hp _)
    refine lv_iconst (v := 2) hx hb dX2_wouldTake_111 (by decide) ?_
    refine lv_icmp_lt (tgt := 119) hx hb dX2_wouldTake_112 (by decide) (fun c26 => ?_) (fun c26 => ?_)
    · skip
      have hF := hF.trans (if_pos c26)
      refine lv_iconst (v := 0) hx hb dX2_wouldTake_119 (by decide) ?_
      exact hret _ _ _ _ _ _ hw dX2_wouldTake_120 (Or.inl rfl) ⟨hF, rfl⟩
    · skip
      have hF := hF.trans (if_neg c26)
      refine lv_iconst (v := 1) hx hb dX2_wouldTake_115 (by decide) ?_
      refine lv_goto (tgt := 120) hx hb dX2_wouldTake_116 (by decide) ?_
      exact hret _ _ _ _ _ _ hw dX2_wouldTake_120 (Or.inr rfl) ⟨hF, rfl⟩
  have hF := hF.trans (if_neg c22)
  have nc1 : ¬ Int32.toInt a1 = 1 := fun q => c1 (Int32.toInt_inj.mp (q.trans (by decide)))
  have nc6 : ¬ Int32.toInt a1 = 2 := fun q => c6 (Int32.toInt_inj.mp (q.trans (by decide)))
  have nc11 : ¬ Int32.toInt a1 = 3 := fun q => c11 (Int32.toInt_inj.mp (q.trans (by decide)))
  have nc17 : ¬ Int32.toInt a1 = 4 := fun q => c17 (Int32.toInt_inj.mp (q.trans (by decide)))
  have nc22 : ¬ Int32.toInt a1 = 5 := fun q => c22 (Int32.toInt_inj.mp (q.trans (by decide)))
  refine lv_tableOut (tgt := 121) hx hb dX2_wouldTake_1 (by omega) (by decide) ?_
  refine lv_iconst (v := 0) hx hb dX2_wouldTake_121 (by decide) ?_
  exact hret _ _ _ _ _ _ hw dX2_wouldTake_122 (Or.inl rfl) ⟨hF, rfl⟩
abbrev rmX2_catchesIf : Room := { frames := 2, cells := 0, slots := 0, locals := 48 }
def g_X2_catchesIf (v : Mm) (i0 : Nat) (a1 : Int32) (a2 : Int32) (a3 : Int32) (a4 : Int32) : Option (Int32) := Option.bind (g_X2_guardOn v i0 a4 a3) (fun r2 => Option.bind (g_X2_isThere v i0 r2) (fun r5 => if r5 = 0 then (some 0) else (if r2 < 0 ∨ 4 ≤ Int32.toNatClampNeg r2 then none else (Option.bind (g_X2_wouldTake v i0 (v 8 i0 (Int32.toNatClampNeg r2)) a2 a1 a4) (fun r10 => if r10 = 0 then (some 0) else (some 1))))))
set_option maxHeartbeats 4000000 in
set_option maxRecDepth 100000 in
theorem d_X2_catchesIf (l : Launch) (E : kq_T) (Z : km_Z) (v : Mm) (i0 : Nat) (h_i0 : i0 < cntX 6) (a1 : Int32) (a2 : Int32) (a3 : Int32) (a4 : Int32) (hs : g_X2_catchesIf v i0 a1 a2 a3 a4 ≠ none) : km_I l E Z cntX yX2_catchesIf wsX2_catchesIf rmX2_catchesIf [.ref (Z.1 6 i0), .int a1, .int a2, .int a3, .int a4] v (fun r v1 => (g_X2_catchesIf v i0 a1 a2 a3 a4 = some r ∧ v = v1) ∧ (r = 0 ∨ r = 1)) := by
  refine km_goZ (cc := cX2_catchesIf) (maxL := 6) (post := fun r v1 => g_X2_catchesIf v i0 a1 a2 a3 a4 = some r ∧ v = v1) (by decide) rfl (Nat.le_of_ble_eq_true rfl) rfl rfl rfl ?_
  intro p e s m below meth c A ls Q C hK hw hl hret
  obtain ⟨hx, hb, hml, hown, hts, -, -, -⟩ := C
  have hown : s.vm.findClass RX2 = some m.cls := hown
  have hl : lv_has ls 6 [(0, .ref (Z.1 6 i0)), (1, .int a1), (2, .int a2), (3, .int a3), (4, .int a4)] := hl
  have hF := g_X2_catchesIf.eq_1 v i0 a1 a2 a3 a4
  refine lv_aload_n hx hb dX2_catchesIf_0 rfl (lv_at hl 0 rfl) ?_
  refine lv_iload hx hb dX2_catchesIf_1 (lv_at hl 4 rfl) ?_
  refine lv_iload_n hx hb dX2_catchesIf_3 rfl (lv_at hl 3 rfl) ?_
  have hs1 : g_X2_guardOn v i0 a4 a3 ≠ none := fun q => hs (hF.trans (kb_n q _))
  refine km_cI (As := [.int a4, .int a3]) (rest := []) (n := 2) (q := (RX2, TX2, 8)) (ci := 2) (t := 6) (i := i0) ⟨hx, hb, hml, hown, hts⟩ (d_X2_guardOn l E Z v i0 h_i0 a4 a3 hs1) gX2_catchesIf_X2_guardOn rfl hV_X2_guardOn ⟨Nat.le_of_ble_eq_true rfl, Nat.le_of_ble_eq_true rfl⟩ hK hw (by decide) h_i0 rfl rfl rfl hl.1 rfl (Nat.le_of_ble_eq_true rfl) dX2_catchesIf_4 rfl rfl (fun r2 v3 H locs hp hw => ?_)
  obtain ⟨hp, rfl⟩ := hp
  have hF := hF.trans (kb_some hp _)
  refine lv_istore (lv' := [(5, .int r2), (0, .ref (Z.1 6 i0)), (1, .int a1), (2, .int a2), (3, .int a3), (4, .int a4)]) hx hb dX2_catchesIf_7 hl (by decide) rfl (fun ls hl => ?_)
  refine lv_aload_n hx hb dX2_catchesIf_9 rfl (lv_at hl 1 rfl) ?_
  refine lv_iload hx hb dX2_catchesIf_10 (lv_at hl 0 rfl) ?_
  have hs4 : g_X2_isThere v i0 r2 ≠ none := fun q => hs (hF.trans (kb_n q _))
  refine km_cI (As := [.int r2]) (rest := []) (n := 1) (q := (RX2, TX2, 8)) (ci := 2) (t := 6) (i := i0) ⟨hx, hb, hml, hown, hts⟩ (d_X2_isThere l E Z v i0 h_i0 r2 hs4) gX2_catchesIf_X2_isThere rfl hV_X2_isThere ⟨Nat.le_of_ble_eq_true rfl, Nat.le_of_ble_eq_true rfl⟩ hK hw (by decide) h_i0 rfl rfl rfl hl.1 rfl (Nat.le_of_ble_eq_true rfl) dX2_catchesIf_12 rfl rfl (fun r5 v6 H locs hp hw => ?_)
  obtain ⟨hp, hzr5⟩ := hp
  obtain ⟨hp, rfl⟩ := hp
  have hF := hF.trans (kb_some hp _)
  refine lv_if_eq (tgt := 40) hx hb dX2_catchesIf_15 (by decide) (fun c7 => ?_) (fun c7 => ?_)
  · skip
    have hF := hF.trans (if_pos c7)
    refine lv_iconst (v := 0) hx hb dX2_catchesIf_40 (by decide) ?_
    exact hret _ _ _ _ _ _ hw dX2_catchesIf_41 (Or.inl rfl) ⟨hF, rfl⟩
  · skip
    have hF := hF.trans (if_neg c7)
    refine lv_aload_n hx hb dX2_catchesIf_18 rfl (lv_at hl 1 rfl) ?_
    refine lv_aload_n hx hb dX2_catchesIf_19 rfl (lv_at hl 1 rfl) ?_
    refine km_get (ci := 2) (C := RX2) (T := TX2) (N := 8) (t := 6) (i := i0) hx hb hts fi_X2_catchesIf_X2 hown hK hw (by decide) h_i0 rfl rfl 1 (by decide) (hts (.fieldLink RX2 15 "WrongWord$Gate" "kinds" "[I") ow_X2_catchesIf_15) rfl dX2_catchesIf_20 ?_
    refine lv_iload hx hb dX2_catchesIf_23 (lv_at hl 0 rfl) ?_
    have hb8 : ¬ (r2 < 0 ∨ 4 ≤ Int32.toNatClampNeg r2) := fun q => hs (hF.trans (if_pos q))
    have hF := hF.trans (if_neg hb8)
    refine km_iald (t := 8) (i := i0) hx hb hK hw (by decide) h_i0 rfl hb8 dX2_catchesIf_25 ?_
    refine lv_iload_n hx hb dX2_catchesIf_26 rfl (lv_at hl 3 rfl) ?_
    refine lv_iload_n hx hb dX2_catchesIf_27 rfl (lv_at hl 2 rfl) ?_
    refine lv_iload hx hb dX2_catchesIf_28 (lv_at hl 5 rfl) ?_
    have hs9 : g_X2_wouldTake v i0 (v 8 i0 (Int32.toNatClampNeg r2)) a2 a1 a4 ≠ none := fun q => hs (hF.trans (kb_n q _))
    refine km_cI (As := [.int (v 8 i0 (Int32.toNatClampNeg r2)), .int a2, .int a1, .int a4]) (rest := []) (n := 4) (q := (RX2, TX2, 8)) (ci := 2) (t := 6) (i := i0) ⟨hx, hb, hml, hown, hts⟩ (d_X2_wouldTake l E Z v i0 h_i0 (v 8 i0 (Int32.toNatClampNeg r2)) a2 a1 a4 hs9) gX2_catchesIf_X2_wouldTake rfl hV_X2_wouldTake ⟨Nat.le_of_ble_eq_true rfl, Nat.le_of_ble_eq_true rfl⟩ hK hw (by decide) h_i0 rfl rfl rfl hl.1 rfl (Nat.le_of_ble_eq_true rfl) dX2_catchesIf_30 rfl rfl (fun r10 v11 H locs hp hw => ?_)
    obtain ⟨hp, hzr10⟩ := hp
    obtain ⟨hp, rfl⟩ := hp
    have hF := hF.trans (kb_some hp _)
    refine lv_if_eq (tgt := 40) hx hb dX2_catchesIf_33 (by decide) (fun c12 => ?_) (fun c12 => ?_)
    · skip
      have hF := hF.trans (if_pos c12)
      refine lv_iconst (v := 0) hx hb dX2_catchesIf_40 (by decide) ?_
      exact hret _ _ _ _ _ _ hw dX2_catchesIf_41 (Or.inl rfl) ⟨hF, rfl⟩
    · skip
      have hF := hF.trans (if_neg c12)
      refine lv_iconst (v := 1) hx hb dX2_catchesIf_36 (by decide) ?_
      refine lv_goto (tgt := 41) hx hb dX2_catchesIf_37 (by decide) ?_
      exact hret _ _ _ _ _ _ hw dX2_catchesIf_41 (Or.inr rfl) ⟨hF, rfl⟩
abbrev rmX2_catches : Room := { frames := 3, cells := 0, slots := 0, locals := 73 }
def g_X2_catches (v : Mm) (i0 : Nat) (a1 : Int32) (a2 : Int32) (a3 : Int32) : Option (Int32) := Option.bind (g_X2_secretIn v i0 a3) (fun r2 => Option.bind (g_X2_catchesIf v i0 r2 a1 a2 ((v 10 i0 4) + a3)) (fun r5 => some r5))
set_option maxHeartbeats 4000000 in
set_option maxRecDepth 100000 in
theorem d_X2_catches (l : Launch) (E : kq_T) (Z : km_Z) (v : Mm) (i0 : Nat) (h_i0 : i0 < cntX 6) (a1 : Int32) (a2 : Int32) (a3 : Int32) (hs : g_X2_catches v i0 a1 a2 a3 ≠ none) : km_I l E Z cntX yX2_catches wsX2_catches rmX2_catches [.ref (Z.1 6 i0), .int a1, .int a2, .int a3] v (fun r v1 => (g_X2_catches v i0 a1 a2 a3 = some r ∧ v = v1) ∧ (r = 0 ∨ r = 1)) := by
  refine km_goZ (cc := cX2_catches) (maxL := 4) (post := fun r v1 => g_X2_catches v i0 a1 a2 a3 = some r ∧ v = v1) (by decide) rfl (Nat.le_of_ble_eq_true rfl) rfl rfl rfl ?_
  intro p e s m below meth c A ls Q C hK hw hl hret
  obtain ⟨hx, hb, hml, hown, hts, -, -, -⟩ := C
  have hown : s.vm.findClass RX2 = some m.cls := hown
  have hl : lv_has ls 4 [(0, .ref (Z.1 6 i0)), (1, .int a1), (2, .int a2), (3, .int a3)] := hl
  have hF := g_X2_catches.eq_1 v i0 a1 a2 a3
  refine lv_aload_n hx hb dX2_catches_0 rfl (lv_at hl 0 rfl) ?_
  refine lv_aload_n hx hb dX2_catches_1 rfl (lv_at hl 0 rfl) ?_
  refine lv_iload_n hx hb dX2_catches_2 rfl (lv_at hl 3 rfl) ?_
  have hs1 : g_X2_secretIn v i0 a3 ≠ none := fun q => hs (hF.trans (kb_n q _))
  refine km_cI (As := [.int a3]) (rest := [.ref (Z.1 6 i0)]) (n := 1) (q := (RX2, TX2, 8)) (ci := 2) (t := 6) (i := i0) ⟨hx, hb, hml, hown, hts⟩ (d_X2_secretIn l E Z v i0 h_i0 a3 hs1) gX2_catches_X2_secretIn rfl hV_X2_secretIn ⟨Nat.le_of_ble_eq_true rfl, Nat.le_of_ble_eq_true rfl⟩ hK hw (by decide) h_i0 rfl rfl rfl hl.1 rfl (Nat.le_of_ble_eq_true rfl) dX2_catches_3 rfl rfl (fun r2 v3 H locs hp hw => ?_)
  obtain ⟨hp, rfl⟩ := hp
  have hF := hF.trans (kb_some hp _)
  refine lv_iload_n hx hb dX2_catches_6 rfl (lv_at hl 1 rfl) ?_
  refine lv_iload_n hx hb dX2_catches_7 rfl (lv_at hl 2 rfl) ?_
  refine lv_aload_n hx hb dX2_catches_8 rfl (lv_at hl 0 rfl) ?_
  refine km_get (ci := 2) (C := RX2) (T := TX2) (N := 8) (t := 6) (i := i0) hx hb hts fi_X2_catches_X2 hown hK hw (by decide) h_i0 rfl rfl 3 (by decide) (hts (.fieldLink RX2 24 "WrongWord$Gate" "now" "LWrongWord$Moment;") ow_X2_catches_24) rfl dX2_catches_9 ?_
  refine km_get (ci := 4) (C := RX4) (T := TX4) (N := 8) (t := 10) (i := i0) hx hb hts fi_X2_catches_X4 hown hK hw (by decide) (Nat.lt_of_lt_of_le (show i0 < cntX 6 from h_i0) (by decide)) rfl rfl 4 (by decide) (hts (.fieldLink RX2 58 "WrongWord$Moment" "night" "I") ow_X2_catches_58) rfl dX2_catches_12 ?_
  refine lv_iload_n hx hb dX2_catches_15 rfl (lv_at hl 3 rfl) ?_
  refine lv_iadd hx hb dX2_catches_16 ?_
  have hs4 : g_X2_catchesIf v i0 r2 a1 a2 ((v 10 i0 4) + a3) ≠ none := fun q => hs (hF.trans (kb_n q _))
  refine km_cI (As := [.int r2, .int a1, .int a2, .int ((v 10 i0 4) + a3)]) (rest := []) (n := 4) (q := (RX2, TX2, 8)) (ci := 2) (t := 6) (i := i0) ⟨hx, hb, hml, hown, hts⟩ (d_X2_catchesIf l E Z v i0 h_i0 r2 a1 a2 ((v 10 i0 4) + a3) hs4) gX2_catches_X2_catchesIf rfl hV_X2_catchesIf ⟨Nat.le_of_ble_eq_true rfl, Nat.le_of_ble_eq_true rfl⟩ hK hw (by decide) h_i0 rfl rfl rfl hl.1 rfl (Nat.le_of_ble_eq_true rfl) dX2_catches_17 rfl rfl (fun r5 v6 H locs hp hw => ?_)
  obtain ⟨hp, hzr5⟩ := hp
  obtain ⟨hp, rfl⟩ := hp
  have hF := hF.trans (kb_some hp _)
  exact hret _ _ _ _ _ _ hw dX2_catches_20 hzr5 ⟨hF, rfl⟩
abbrev rmX7_bit : Room := { frames := 0, cells := 0, slots := 0, locals := 0 }
def g_X7_bit (v : Mm) (a0 : Int32) : Option (Int32) := if a0 = 0 then (some 0) else (some 1)
set_option maxHeartbeats 4000000 in
set_option maxRecDepth 100000 in
theorem d_X7_bit (l : Launch) (E : kq_T) (Z : km_Z) (v : Mm) (a0 : Int32) (hs : g_X7_bit v a0 ≠ none) : km_I l E Z cntX yX7_bit wsX7_bit rmX7_bit [.int a0] v (fun r v1 => g_X7_bit v a0 = some r ∧ v = v1) := by
  refine km_goI (cc := cX7_bit) (maxL := 1) (by decide) rfl (Nat.le_of_ble_eq_true rfl) rfl rfl rfl ?_
  intro p e s m below meth c A ls Q C hK hw hl hret
  obtain ⟨hx, hb, hml, hown, hts, -, -, -⟩ := C
  have hown : s.vm.findClass RX7 = some m.cls := hown
  have hl : lv_has ls 1 [(0, .int a0)] := hl
  have hF := g_X7_bit.eq_1 v a0
  refine lv_iload_n hx hb dX7_bit_0 rfl (lv_at hl 0 rfl) ?_
  refine lv_if_eq (tgt := 8) hx hb dX7_bit_1 (by decide) (fun c1 => ?_) (fun c1 => ?_)
  · skip
    have hF := hF.trans (if_pos c1)
    refine lv_iconst (v := 0) hx hb dX7_bit_8 (by decide) ?_
    exact hret _ _ _ _ _ _ hw dX7_bit_9 ⟨hF, rfl⟩
  · skip
    have hF := hF.trans (if_neg c1)
    refine lv_iconst (v := 1) hx hb dX7_bit_4 (by decide) ?_
    refine lv_goto (tgt := 9) hx hb dX7_bit_5 (by decide) ?_
    exact hret _ _ _ _ _ _ hw dX7_bit_9 ⟨hF, rfl⟩
abbrev rmX2_hoursOf : Room := { frames := 2, cells := 0, slots := 0, locals := 43 }
def b_X2_hoursOf_L4  (rec4 : Int32 → Int32 → Option (Int32)) (v : Mm) (i0 : Nat) (a1 : Int32) (x2_4 : Int32) (x3_4 : Int32) : Option (Int32) := if 6 ≤ x3_4 then (some x2_4) else (Option.bind (g_X2_guardOn v i0 (v 10 i0 4) x3_4) (fun r3 => if r3 = a1 then (Option.bind (g_X7_bit v 1) (fun r10 => rec4 (x2_4 ||| (r10 <<< (x3_4 &&& 31))) (x3_4 + 1))) else (Option.bind (g_X7_bit v 0) (fun r7 => rec4 (x2_4 ||| (r7 <<< (x3_4 &&& 31))) (x3_4 + 1)))))
def g_X2_hoursOf_L4  (v : Mm) (i0 : Nat) (a1 : Int32) : Nat → Int32 → Int32 → Option (Int32)
  | 0 => fun _ _ => none
  | n + 1 => b_X2_hoursOf_L4  (g_X2_hoursOf_L4  v i0 a1 n) v i0 a1
def g_X2_hoursOf (v : Mm) (i0 : Nat) (a1 : Int32) : Option (Int32) := g_X2_hoursOf_L4  v i0 a1 2000 0 0
set_option maxHeartbeats 4000000 in
set_option maxRecDepth 100000 in
theorem d_X2_hoursOf (l : Launch) (E : kq_T) (Z : km_Z) (v : Mm) (i0 : Nat) (h_i0 : i0 < cntX 6) (a1 : Int32) (hs : g_X2_hoursOf v i0 a1 ≠ none) : km_I l E Z cntX yX2_hoursOf wsX2_hoursOf rmX2_hoursOf [.ref (Z.1 6 i0), .int a1] v (fun r v1 => g_X2_hoursOf v i0 a1 = some r ∧ v = v1) := by
  refine km_goI (cc := cX2_hoursOf) (maxL := 4) (by decide) rfl (Nat.le_of_ble_eq_true rfl) rfl rfl rfl ?_
  intro p e s m below meth c A ls Q C hK hw hl hret
  obtain ⟨hx, hb, hml, hown, hts, -, -, -⟩ := C
  have hown : s.vm.findClass RX2 = some m.cls := hown
  have hl : lv_has ls 4 [(0, .ref (Z.1 6 i0)), (1, .int a1)] := hl
  have hF := g_X2_hoursOf.eq_1 v i0 a1
  have loop4 : ∀ (n4 : Nat) (x2_4 : Int32) (x3_4 : Int32) (H : Heap) (locs : List Loc) (ls : Array Slot), g_X2_hoursOf v i0 a1 = g_X2_hoursOf_L4  v i0 a1 n4 x2_4 x3_4 → km_w E A s.heap [] Z cntX v H locs → lv_has ls 4 [(0, .ref (Z.1 6 i0)), (1, .int a1), (2, .int x2_4), (3, .int x3_4)] → W p l e rmX2_hoursOf s m [.ref (Z.1 6 i0), .int a1].toArray below meth c H locs 0 0 Q (F0 m 4 ls []) := by
    intro n4
    induction n4 with
    | zero => intro x2_4 x3_4 H locs ls hF hw hl; exact absurd (show g_X2_hoursOf v i0 a1 = none from hF) hs
    | succ n4 ih4 =>
      intro x2_4 x3_4 H locs ls hF hw hl
      have hF := hF.trans (b_X2_hoursOf_L4.eq_1  (g_X2_hoursOf_L4  v i0 a1 n4) v i0 a1 x2_4 x3_4)
      refine lv_iload_n hx hb dX2_hoursOf_4 rfl (lv_at hl 3 rfl) ?_
      refine lv_bipush (v := 6) hx hb dX2_hoursOf_5 (by decide) ?_
      refine lv_icmp_ge (tgt := 45) hx hb dX2_hoursOf_7 (by decide) (fun c1 => ?_) (fun c1 => ?_)
      · skip
        have hF := hF.trans (if_pos c1)
        refine lv_iload_n hx hb dX2_hoursOf_45 rfl (lv_at hl 2 rfl) ?_
        exact hret _ _ _ _ _ _ hw dX2_hoursOf_46 ⟨hF, rfl⟩
      · skip
        have hF := hF.trans (if_neg c1)
        refine lv_iload_n hx hb dX2_hoursOf_10 rfl (lv_at hl 2 rfl) ?_
        refine lv_aload_n hx hb dX2_hoursOf_11 rfl (lv_at hl 0 rfl) ?_
        refine lv_aload_n hx hb dX2_hoursOf_12 rfl (lv_at hl 0 rfl) ?_
        refine km_get (ci := 2) (C := RX2) (T := TX2) (N := 8) (t := 6) (i := i0) hx hb hts fi_X2_hoursOf_X2 hown hK hw (by decide) h_i0 rfl rfl 3 (by decide) (hts (.fieldLink RX2 24 "WrongWord$Gate" "now" "LWrongWord$Moment;") ow_X2_hoursOf_24) rfl dX2_hoursOf_13 ?_
        refine km_get (ci := 4) (C := RX4) (T := TX4) (N := 8) (t := 10) (i := i0) hx hb hts fi_X2_hoursOf_X4 hown hK hw (by decide) (Nat.lt_of_lt_of_le (show i0 < cntX 6 from h_i0) (by decide)) rfl rfl 4 (by decide) (hts (.fieldLink RX2 58 "WrongWord$Moment" "night" "I") ow_X2_hoursOf_58) rfl dX2_hoursOf_16 ?_
        refine lv_iload_n hx hb dX2_hoursOf_19 rfl (lv_at hl 3 rfl) ?_
        have hs2 : g_X2_guardOn v i0 (v 10 i0 4) x3_4 ≠ none := fun q => hs (hF.trans (kb_n q _))
        refine km_cI (As := [.int (v 10 i0 4), .int x3_4]) (rest := [.int x2_4]) (n := 2) (q := (RX2, TX2, 8)) (ci := 2) (t := 6) (i := i0) ⟨hx, hb, hml, hown, hts⟩ (d_X2_guardOn l E Z v i0 h_i0 (v 10 i0 4) x3_4 hs2) gX2_hoursOf_X2_guardOn rfl hV_X2_guardOn ⟨Nat.le_of_ble_eq_true rfl, Nat.le_of_ble_eq_true rfl⟩ hK hw (by decide) h_i0 rfl rfl rfl hl.1 rfl (Nat.le_of_ble_eq_true rfl) dX2_hoursOf_20 rfl rfl (fun r3 v4 H locs hp hw => ?_)
        obtain ⟨hp, rfl⟩ := hp
        have hF := hF.trans (kb_some hp _)
        refine lv_iload_n hx hb dX2_hoursOf_23 rfl (lv_at hl 1 rfl) ?_
        refine lv_icmp_ne (tgt := 31) hx hb dX2_hoursOf_24 (by decide) (fun c5 => ?_) (fun c5 => ?_)
        · skip
          have hF := hF.trans (if_neg c5)
          refine lv_iconst (v := 0) hx hb dX2_hoursOf_31 (by decide) ?_
          have hs6 : g_X7_bit v 0 ≠ none := fun q => hs (hF.trans (kb_n q _))
          refine km_cSN (As := [.int 0]) (rest := [.int x2_4]) (n := 1) ⟨hx, hb, hml, hown, hts⟩ (d_X7_bit l E Z v 0 hs6) gX2_hoursOf_X7_bit_n92 rfl (hts (.initialized RX7) (by decide +kernel)) (by decide +kernel) (hts (.static yX7_bit) (by decide +kernel)) (by decide +kernel) ⟨Nat.le_of_ble_eq_true rfl, Nat.le_of_ble_eq_true rfl⟩ hK hw rfl hl.1 rfl (Nat.le_of_ble_eq_true rfl) dX2_hoursOf_32 rfl rfl (fun r7 v8 H locs hp hw => ?_)
          obtain ⟨hp, rfl⟩ := hp
          have hF := hF.trans (kb_some hp _)
          refine lv_iload_n hx hb dX2_hoursOf_35 rfl (lv_at hl 3 rfl) ?_
          refine lv_ishl hx hb dX2_hoursOf_36 ?_
          refine lv_ior hx hb dX2_hoursOf_37 ?_
          refine lv_istore_n (lv' := [(2, .int (x2_4 ||| (r7 <<< (x3_4 &&& 31)))), (0, .ref (Z.1 6 i0)), (1, .int a1), (3, .int x3_4)]) hx hb dX2_hoursOf_38 rfl hl (by decide) rfl (fun ls hl => ?_)
          refine lv_iinc (v := x3_4 + 1) (lv' := [(3, .int (x3_4 + 1)), (2, .int (x2_4 ||| (r7 <<< (x3_4 &&& 31)))), (0, .ref (Z.1 6 i0)), (1, .int a1)]) hx hb dX2_hoursOf_39 hl (k := 3) rfl rfl (by decide) rfl (fun ls hl => ?_)
          refine lv_goto (tgt := 4) hx hb dX2_hoursOf_42 (by decide) ?_
          have hl := lv_sub (l' := [(0, .ref (Z.1 6 i0)), (1, .int a1), (2, .int (x2_4 ||| (r7 <<< (x3_4 &&& 31)))), (3, .int (x3_4 + 1))]) hl [2, 3, 1, 0] rfl
          exact ih4 (x2_4 ||| (r7 <<< (x3_4 &&& 31))) (x3_4 + 1) _ _ _ hF hw hl
        · skip
          have hF := hF.trans (if_pos c5)
          refine lv_iconst (v := 1) hx hb dX2_hoursOf_27 (by decide) ?_
          refine lv_goto (tgt := 32) hx hb dX2_hoursOf_28 (by decide) ?_
          have hs9 : g_X7_bit v 1 ≠ none := fun q => hs (hF.trans (kb_n q _))
          refine km_cSN (As := [.int 1]) (rest := [.int x2_4]) (n := 1) ⟨hx, hb, hml, hown, hts⟩ (d_X7_bit l E Z v 1 hs9) gX2_hoursOf_X7_bit_n92 rfl (hts (.initialized RX7) (by decide +kernel)) (by decide +kernel) (hts (.static yX7_bit) (by decide +kernel)) (by decide +kernel) ⟨Nat.le_of_ble_eq_true rfl, Nat.le_of_ble_eq_true rfl⟩ hK hw rfl hl.1 rfl (Nat.le_of_ble_eq_true rfl) dX2_hoursOf_32 rfl rfl (fun r10 v11 H locs hp hw => ?_)
          obtain ⟨hp, rfl⟩ := hp
          have hF := hF.trans (kb_some hp _)
          refine lv_iload_n hx hb dX2_hoursOf_35 rfl (lv_at hl 3 rfl) ?_
          refine lv_ishl hx hb dX2_hoursOf_36 ?_
          refine lv_ior hx hb dX2_hoursOf_37 ?_
          refine lv_istore_n (lv' := [(2, .int (x2_4 ||| (r10 <<< (x3_4 &&& 31)))), (0, .ref (Z.1 6 i0)), (1, .int a1), (3, .int x3_4)]) hx hb dX2_hoursOf_38 rfl hl (by decide) rfl (fun ls hl => ?_)
          refine lv_iinc (v := x3_4 + 1) (lv' := [(3, .int (x3_4 + 1)), (2, .int (x2_4 ||| (r10 <<< (x3_4 &&& 31)))), (0, .ref (Z.1 6 i0)), (1, .int a1)]) hx hb dX2_hoursOf_39 hl (k := 3) rfl rfl (by decide) rfl (fun ls hl => ?_)
          refine lv_goto (tgt := 4) hx hb dX2_hoursOf_42 (by decide) ?_
          have hl := lv_sub (l' := [(0, .ref (Z.1 6 i0)), (1, .int a1), (2, .int (x2_4 ||| (r10 <<< (x3_4 &&& 31)))), (3, .int (x3_4 + 1))]) hl [2, 3, 1, 0] rfl
          exact ih4 (x2_4 ||| (r10 <<< (x3_4 &&& 31))) (x3_4 + 1) _ _ _ hF hw hl
  refine lv_iconst (v := 0) hx hb dX2_hoursOf_0 (by decide) ?_
  refine lv_istore_n (lv' := [(2, .int 0), (0, .ref (Z.1 6 i0)), (1, .int a1)]) hx hb dX2_hoursOf_1 rfl hl (by decide) rfl (fun ls hl => ?_)
  refine lv_iconst (v := 0) hx hb dX2_hoursOf_2 (by decide) ?_
  refine lv_istore_n (lv' := [(3, .int 0), (2, .int 0), (0, .ref (Z.1 6 i0)), (1, .int a1)]) hx hb dX2_hoursOf_3 rfl hl (by decide) rfl (fun ls hl => ?_)
  have hl := lv_sub (l' := [(0, .ref (Z.1 6 i0)), (1, .int a1), (2, .int 0), (3, .int 0)]) hl [2, 3, 1, 0] rfl
  exact loop4 2000 0 0 _ _ _ hF hw hl
abbrev rmX2_wordsIn : Room := { frames := 4, cells := 0, slots := 0, locals := 96 }
def b_X2_wordsIn_L5  (rec5 : Int32 → Int32 → Option (Int32)) (v : Mm) (i0 : Nat) (a1 : Int32) (a2 : Int32) (x3_5 : Int32) (x4_5 : Int32) : Option (Int32) := if v 6 i0 6 ≤ x4_5 then (some x3_5) else (Option.bind (g_X2_catches v i0 x4_5 a1 a2) (fun r3 => if r3 = 0 then (Option.bind (g_X7_bit v 1) (fun r10 => rec5 (x3_5 ||| (r10 <<< (x4_5 &&& 31))) (x4_5 + 1))) else (Option.bind (g_X7_bit v 0) (fun r7 => rec5 (x3_5 ||| (r7 <<< (x4_5 &&& 31))) (x4_5 + 1)))))
def g_X2_wordsIn_L5  (v : Mm) (i0 : Nat) (a1 : Int32) (a2 : Int32) : Nat → Int32 → Int32 → Option (Int32)
  | 0 => fun _ _ => none
  | n + 1 => b_X2_wordsIn_L5  (g_X2_wordsIn_L5  v i0 a1 a2 n) v i0 a1 a2
def g_X2_wordsIn (v : Mm) (i0 : Nat) (a1 : Int32) (a2 : Int32) : Option (Int32) := g_X2_wordsIn_L5  v i0 a1 a2 2000 0 0
set_option maxHeartbeats 4000000 in
set_option maxRecDepth 100000 in
theorem d_X2_wordsIn (l : Launch) (E : kq_T) (Z : km_Z) (v : Mm) (i0 : Nat) (h_i0 : i0 < cntX 6) (a1 : Int32) (a2 : Int32) (hs : g_X2_wordsIn v i0 a1 a2 ≠ none) : km_I l E Z cntX yX2_wordsIn wsX2_wordsIn rmX2_wordsIn [.ref (Z.1 6 i0), .int a1, .int a2] v (fun r v1 => g_X2_wordsIn v i0 a1 a2 = some r ∧ v = v1) := by
  refine km_goI (cc := cX2_wordsIn) (maxL := 5) (by decide) rfl (Nat.le_of_ble_eq_true rfl) rfl rfl rfl ?_
  intro p e s m below meth c A ls Q C hK hw hl hret
  obtain ⟨hx, hb, hml, hown, hts, -, -, -⟩ := C
  have hown : s.vm.findClass RX2 = some m.cls := hown
  have hl : lv_has ls 5 [(0, .ref (Z.1 6 i0)), (1, .int a1), (2, .int a2)] := hl
  have hF := g_X2_wordsIn.eq_1 v i0 a1 a2
  have loop5 : ∀ (n5 : Nat) (x3_5 : Int32) (x4_5 : Int32) (H : Heap) (locs : List Loc) (ls : Array Slot), g_X2_wordsIn v i0 a1 a2 = g_X2_wordsIn_L5  v i0 a1 a2 n5 x3_5 x4_5 → km_w E A s.heap [] Z cntX v H locs → lv_has ls 5 [(0, .ref (Z.1 6 i0)), (1, .int a1), (2, .int a2), (3, .int x3_5), (4, .int x4_5)] → W p l e rmX2_wordsIn s m [.ref (Z.1 6 i0), .int a1, .int a2].toArray below meth c H locs 0 0 Q (F0 m 5 ls []) := by
    intro n5
    induction n5 with
    | zero => intro x3_5 x4_5 H locs ls hF hw hl; exact absurd (show g_X2_wordsIn v i0 a1 a2 = none from hF) hs
    | succ n5 ih5 =>
      intro x3_5 x4_5 H locs ls hF hw hl
      have hF := hF.trans (b_X2_wordsIn_L5.eq_1  (g_X2_wordsIn_L5  v i0 a1 a2 n5) v i0 a1 a2 x3_5 x4_5)
      refine lv_iload hx hb dX2_wordsIn_5 (lv_at hl 4 rfl) ?_
      refine lv_aload_n hx hb dX2_wordsIn_7 rfl (lv_at hl 0 rfl) ?_
      refine km_get (ci := 2) (C := RX2) (T := TX2) (N := 8) (t := 6) (i := i0) hx hb hts fi_X2_wordsIn_X2 hown hK hw (by decide) h_i0 rfl rfl 6 (by decide) (hts (.fieldLink RX2 45 "WrongWord$Gate" "words" "I") ow_X2_wordsIn_45) rfl dX2_wordsIn_8 ?_
      refine lv_icmp_ge (tgt := 45) hx hb dX2_wordsIn_11 (by decide) (fun c1 => ?_) (fun c1 => ?_)
      · skip
        have hF := hF.trans (if_pos c1)
        refine lv_iload_n hx hb dX2_wordsIn_45 rfl (lv_at hl 3 rfl) ?_
        exact hret _ _ _ _ _ _ hw dX2_wordsIn_46 ⟨hF, rfl⟩
      · skip
        have hF := hF.trans (if_neg c1)
        refine lv_iload_n hx hb dX2_wordsIn_14 rfl (lv_at hl 3 rfl) ?_
        refine lv_aload_n hx hb dX2_wordsIn_15 rfl (lv_at hl 0 rfl) ?_
        refine lv_iload hx hb dX2_wordsIn_16 (lv_at hl 4 rfl) ?_
        refine lv_iload_n hx hb dX2_wordsIn_18 rfl (lv_at hl 1 rfl) ?_
        refine lv_iload_n hx hb dX2_wordsIn_19 rfl (lv_at hl 2 rfl) ?_
        have hs2 : g_X2_catches v i0 x4_5 a1 a2 ≠ none := fun q => hs (hF.trans (kb_n q _))
        refine km_cI (As := [.int x4_5, .int a1, .int a2]) (rest := [.int x3_5]) (n := 3) (q := (RX2, TX2, 8)) (ci := 2) (t := 6) (i := i0) ⟨hx, hb, hml, hown, hts⟩ (d_X2_catches l E Z v i0 h_i0 x4_5 a1 a2 hs2) gX2_wordsIn_X2_catches rfl hV_X2_catches ⟨Nat.le_of_ble_eq_true rfl, Nat.le_of_ble_eq_true rfl⟩ hK hw (by decide) h_i0 rfl rfl rfl hl.1 rfl (Nat.le_of_ble_eq_true rfl) dX2_wordsIn_20 rfl rfl (fun r3 v4 H locs hp hw => ?_)
        obtain ⟨hp, hzr3⟩ := hp
        obtain ⟨hp, rfl⟩ := hp
        have hF := hF.trans (kb_some hp _)
        refine lv_if_ne (tgt := 30) hx hb dX2_wordsIn_23 (by decide) (fun c5 => ?_) (fun c5 => ?_)
        · skip
          have hF := hF.trans (if_neg c5)
          refine lv_iconst (v := 0) hx hb dX2_wordsIn_30 (by decide) ?_
          have hs6 : g_X7_bit v 0 ≠ none := fun q => hs (hF.trans (kb_n q _))
          refine km_cSN (As := [.int 0]) (rest := [.int x3_5]) (n := 1) ⟨hx, hb, hml, hown, hts⟩ (d_X7_bit l E Z v 0 hs6) gX2_wordsIn_X7_bit_n92 rfl (hts (.initialized RX7) (by decide +kernel)) (by decide +kernel) (hts (.static yX7_bit) (by decide +kernel)) (by decide +kernel) ⟨Nat.le_of_ble_eq_true rfl, Nat.le_of_ble_eq_true rfl⟩ hK hw rfl hl.1 rfl (Nat.le_of_ble_eq_true rfl) dX2_wordsIn_31 rfl rfl (fun r7 v8 H locs hp hw => ?_)
          obtain ⟨hp, rfl⟩ := hp
          have hF := hF.trans (kb_some hp _)
          refine lv_iload hx hb dX2_wordsIn_34 (lv_at hl 4 rfl) ?_
          refine lv_ishl hx hb dX2_wordsIn_36 ?_
          refine lv_ior hx hb dX2_wordsIn_37 ?_
          refine lv_istore_n (lv' := [(3, .int (x3_5 ||| (r7 <<< (x4_5 &&& 31)))), (0, .ref (Z.1 6 i0)), (1, .int a1), (2, .int a2), (4, .int x4_5)]) hx hb dX2_wordsIn_38 rfl hl (by decide) rfl (fun ls hl => ?_)
          refine lv_iinc (v := x4_5 + 1) (lv' := [(4, .int (x4_5 + 1)), (3, .int (x3_5 ||| (r7 <<< (x4_5 &&& 31)))), (0, .ref (Z.1 6 i0)), (1, .int a1), (2, .int a2)]) hx hb dX2_wordsIn_39 hl (k := 4) rfl rfl (by decide) rfl (fun ls hl => ?_)
          refine lv_goto (tgt := 5) hx hb dX2_wordsIn_42 (by decide) ?_
          have hl := lv_sub (l' := [(0, .ref (Z.1 6 i0)), (1, .int a1), (2, .int a2), (3, .int (x3_5 ||| (r7 <<< (x4_5 &&& 31)))), (4, .int (x4_5 + 1))]) hl [2, 3, 4, 1, 0] rfl
          exact ih5 (x3_5 ||| (r7 <<< (x4_5 &&& 31))) (x4_5 + 1) _ _ _ hF hw hl
        · skip
          have hF := hF.trans (if_pos c5)
          refine lv_iconst (v := 1) hx hb dX2_wordsIn_26 (by decide) ?_
          refine lv_goto (tgt := 31) hx hb dX2_wordsIn_27 (by decide) ?_
          have hs9 : g_X7_bit v 1 ≠ none := fun q => hs (hF.trans (kb_n q _))
          refine km_cSN (As := [.int 1]) (rest := [.int x3_5]) (n := 1) ⟨hx, hb, hml, hown, hts⟩ (d_X7_bit l E Z v 1 hs9) gX2_wordsIn_X7_bit_n92 rfl (hts (.initialized RX7) (by decide +kernel)) (by decide +kernel) (hts (.static yX7_bit) (by decide +kernel)) (by decide +kernel) ⟨Nat.le_of_ble_eq_true rfl, Nat.le_of_ble_eq_true rfl⟩ hK hw rfl hl.1 rfl (Nat.le_of_ble_eq_true rfl) dX2_wordsIn_31 rfl rfl (fun r10 v11 H locs hp hw => ?_)
          obtain ⟨hp, rfl⟩ := hp
          have hF := hF.trans (kb_some hp _)
          refine lv_iload hx hb dX2_wordsIn_34 (lv_at hl 4 rfl) ?_
          refine lv_ishl hx hb dX2_wordsIn_36 ?_
          refine lv_ior hx hb dX2_wordsIn_37 ?_
          refine lv_istore_n (lv' := [(3, .int (x3_5 ||| (r10 <<< (x4_5 &&& 31)))), (0, .ref (Z.1 6 i0)), (1, .int a1), (2, .int a2), (4, .int x4_5)]) hx hb dX2_wordsIn_38 rfl hl (by decide) rfl (fun ls hl => ?_)
          refine lv_iinc (v := x4_5 + 1) (lv' := [(4, .int (x4_5 + 1)), (3, .int (x3_5 ||| (r10 <<< (x4_5 &&& 31)))), (0, .ref (Z.1 6 i0)), (1, .int a1), (2, .int a2)]) hx hb dX2_wordsIn_39 hl (k := 4) rfl rfl (by decide) rfl (fun ls hl => ?_)
          refine lv_goto (tgt := 5) hx hb dX2_wordsIn_42 (by decide) ?_
          have hl := lv_sub (l' := [(0, .ref (Z.1 6 i0)), (1, .int a1), (2, .int a2), (3, .int (x3_5 ||| (r10 <<< (x4_5 &&& 31)))), (4, .int (x4_5 + 1))]) hl [2, 3, 4, 1, 0] rfl
          exact ih5 (x3_5 ||| (r10 <<< (x4_5 &&& 31))) (x4_5 + 1) _ _ _ hF hw hl
  refine lv_iconst (v := 0) hx hb dX2_wordsIn_0 (by decide) ?_
  refine lv_istore_n (lv' := [(3, .int 0), (0, .ref (Z.1 6 i0)), (1, .int a1), (2, .int a2)]) hx hb dX2_wordsIn_1 rfl hl (by decide) rfl (fun ls hl => ?_)
  refine lv_iconst (v := 0) hx hb dX2_wordsIn_2 (by decide) ?_
  refine lv_istore (lv' := [(4, .int 0), (3, .int 0), (0, .ref (Z.1 6 i0)), (1, .int a1), (2, .int a2)]) hx hb dX2_wordsIn_3 hl (by decide) rfl (fun ls hl => ?_)
  have hl := lv_sub (l' := [(0, .ref (Z.1 6 i0)), (1, .int a1), (2, .int a2), (3, .int 0), (4, .int 0)]) hl [2, 3, 4, 1, 0] rfl
  exact loop5 2000 0 0 _ _ _ hF hw hl
abbrev rmX2_hoursOpen : Room := { frames := 5, cells := 0, slots := 0, locals := 120 }
def b_X2_hoursOpen_L5  (rec5 : Int32 → Int32 → Option (Int32)) (v : Mm) (i0 : Nat) (a1 : Int32) (a2 : Int32) (x3_5 : Int32) (x4_5 : Int32) : Option (Int32) := if 6 ≤ x4_5 then (some x3_5) else (Option.bind (g_X2_wordsIn v i0 x4_5 a2) (fun r3 => if a1 &&& (r3 ^^^ ((-1))) = 0 then (Option.bind (g_X7_bit v 1) (fun r10 => rec5 (x3_5 ||| (r10 <<< (x4_5 &&& 31))) (x4_5 + 1))) else (Option.bind (g_X7_bit v 0) (fun r7 => rec5 (x3_5 ||| (r7 <<< (x4_5 &&& 31))) (x4_5 + 1)))))
def g_X2_hoursOpen_L5  (v : Mm) (i0 : Nat) (a1 : Int32) (a2 : Int32) : Nat → Int32 → Int32 → Option (Int32)
  | 0 => fun _ _ => none
  | n + 1 => b_X2_hoursOpen_L5  (g_X2_hoursOpen_L5  v i0 a1 a2 n) v i0 a1 a2
def g_X2_hoursOpen (v : Mm) (i0 : Nat) (a1 : Int32) (a2 : Int32) : Option (Int32) := g_X2_hoursOpen_L5  v i0 a1 a2 2000 0 0
set_option maxHeartbeats 4000000 in
set_option maxRecDepth 100000 in
theorem d_X2_hoursOpen (l : Launch) (E : kq_T) (Z : km_Z) (v : Mm) (i0 : Nat) (h_i0 : i0 < cntX 6) (a1 : Int32) (a2 : Int32) (hs : g_X2_hoursOpen v i0 a1 a2 ≠ none) : km_I l E Z cntX yX2_hoursOpen wsX2_hoursOpen rmX2_hoursOpen [.ref (Z.1 6 i0), .int a1, .int a2] v (fun r v1 => g_X2_hoursOpen v i0 a1 a2 = some r ∧ v = v1) := by
  refine km_goI (cc := cX2_hoursOpen) (maxL := 5) (by decide) rfl (Nat.le_of_ble_eq_true rfl) rfl rfl rfl ?_
  intro p e s m below meth c A ls Q C hK hw hl hret
  obtain ⟨hx, hb, hml, hown, hts, -, -, -⟩ := C
  have hown : s.vm.findClass RX2 = some m.cls := hown
  have hl : lv_has ls 5 [(0, .ref (Z.1 6 i0)), (1, .int a1), (2, .int a2)] := hl
  have hF := g_X2_hoursOpen.eq_1 v i0 a1 a2
  have loop5 : ∀ (n5 : Nat) (x3_5 : Int32) (x4_5 : Int32) (H : Heap) (locs : List Loc) (ls : Array Slot), g_X2_hoursOpen v i0 a1 a2 = g_X2_hoursOpen_L5  v i0 a1 a2 n5 x3_5 x4_5 → km_w E A s.heap [] Z cntX v H locs → lv_has ls 5 [(0, .ref (Z.1 6 i0)), (1, .int a1), (2, .int a2), (3, .int x3_5), (4, .int x4_5)] → W p l e rmX2_hoursOpen s m [.ref (Z.1 6 i0), .int a1, .int a2].toArray below meth c H locs 0 0 Q (F0 m 5 ls []) := by
    intro n5
    induction n5 with
    | zero => intro x3_5 x4_5 H locs ls hF hw hl; exact absurd (show g_X2_hoursOpen v i0 a1 a2 = none from hF) hs
    | succ n5 ih5 =>
      intro x3_5 x4_5 H locs ls hF hw hl
      have hF := hF.trans (b_X2_hoursOpen_L5.eq_1  (g_X2_hoursOpen_L5  v i0 a1 a2 n5) v i0 a1 a2 x3_5 x4_5)
      refine lv_iload hx hb dX2_hoursOpen_5 (lv_at hl 4 rfl) ?_
      refine lv_bipush (v := 6) hx hb dX2_hoursOpen_7 (by decide) ?_
      refine lv_icmp_ge (tgt := 46) hx hb dX2_hoursOpen_9 (by decide) (fun c1 => ?_) (fun c1 => ?_)
      · skip
        have hF := hF.trans (if_pos c1)
        refine lv_iload_n hx hb dX2_hoursOpen_46 rfl (lv_at hl 3 rfl) ?_
        exact hret _ _ _ _ _ _ hw dX2_hoursOpen_47 ⟨hF, rfl⟩
      · skip
        have hF := hF.trans (if_neg c1)
        refine lv_iload_n hx hb dX2_hoursOpen_12 rfl (lv_at hl 3 rfl) ?_
        refine lv_iload_n hx hb dX2_hoursOpen_13 rfl (lv_at hl 1 rfl) ?_
        refine lv_aload_n hx hb dX2_hoursOpen_14 rfl (lv_at hl 0 rfl) ?_
        refine lv_iload hx hb dX2_hoursOpen_15 (lv_at hl 4 rfl) ?_
        refine lv_iload_n hx hb dX2_hoursOpen_17 rfl (lv_at hl 2 rfl) ?_
        have hs2 : g_X2_wordsIn v i0 x4_5 a2 ≠ none := fun q => hs (hF.trans (kb_n q _))
        refine km_cI (As := [.int x4_5, .int a2]) (rest := [.int a1, .int x3_5]) (n := 2) (q := (RX2, TX2, 8)) (ci := 2) (t := 6) (i := i0) ⟨hx, hb, hml, hown, hts⟩ (d_X2_wordsIn l E Z v i0 h_i0 x4_5 a2 hs2) gX2_hoursOpen_X2_wordsIn rfl hV_X2_wordsIn ⟨Nat.le_of_ble_eq_true rfl, Nat.le_of_ble_eq_true rfl⟩ hK hw (by decide) h_i0 rfl rfl rfl hl.1 rfl (Nat.le_of_ble_eq_true rfl) dX2_hoursOpen_18 rfl rfl (fun r3 v4 H locs hp hw => ?_)
        obtain ⟨hp, rfl⟩ := hp
        have hF := hF.trans (kb_some hp _)
        refine lv_iconst (v := (-1)) hx hb dX2_hoursOpen_21 (by decide) ?_
        refine lv_ixor hx hb dX2_hoursOpen_22 ?_
        refine lv_iand hx hb dX2_hoursOpen_23 ?_
        refine lv_if_ne (tgt := 31) hx hb dX2_hoursOpen_24 (by decide) (fun c5 => ?_) (fun c5 => ?_)
        · skip
          have hF := hF.trans (if_neg c5)
          refine lv_iconst (v := 0) hx hb dX2_hoursOpen_31 (by decide) ?_
          have hs6 : g_X7_bit v 0 ≠ none := fun q => hs (hF.trans (kb_n q _))
          refine km_cSN (As := [.int 0]) (rest := [.int x3_5]) (n := 1) ⟨hx, hb, hml, hown, hts⟩ (d_X7_bit l E Z v 0 hs6) gX2_hoursOpen_X7_bit_n92 rfl (hts (.initialized RX7) (by decide +kernel)) (by decide +kernel) (hts (.static yX7_bit) (by decide +kernel)) (by decide +kernel) ⟨Nat.le_of_ble_eq_true rfl, Nat.le_of_ble_eq_true rfl⟩ hK hw rfl hl.1 rfl (Nat.le_of_ble_eq_true rfl) dX2_hoursOpen_32 rfl rfl (fun r7 v8 H locs hp hw => ?_)
          obtain ⟨hp, rfl⟩ := hp
          have hF := hF.trans (kb_some hp _)
          refine lv_iload hx hb dX2_hoursOpen_35 (lv_at hl 4 rfl) ?_
          refine lv_ishl hx hb dX2_hoursOpen_37 ?_
          refine lv_ior hx hb dX2_hoursOpen_38 ?_
          refine lv_istore_n (lv' := [(3, .int (x3_5 ||| (r7 <<< (x4_5 &&& 31)))), (0, .ref (Z.1 6 i0)), (1, .int a1), (2, .int a2), (4, .int x4_5)]) hx hb dX2_hoursOpen_39 rfl hl (by decide) rfl (fun ls hl => ?_)
          refine lv_iinc (v := x4_5 + 1) (lv' := [(4, .int (x4_5 + 1)), (3, .int (x3_5 ||| (r7 <<< (x4_5 &&& 31)))), (0, .ref (Z.1 6 i0)), (1, .int a1), (2, .int a2)]) hx hb dX2_hoursOpen_40 hl (k := 4) rfl rfl (by decide) rfl (fun ls hl => ?_)
          refine lv_goto (tgt := 5) hx hb dX2_hoursOpen_43 (by decide) ?_
          have hl := lv_sub (l' := [(0, .ref (Z.1 6 i0)), (1, .int a1), (2, .int a2), (3, .int (x3_5 ||| (r7 <<< (x4_5 &&& 31)))), (4, .int (x4_5 + 1))]) hl [2, 3, 4, 1, 0] rfl
          exact ih5 (x3_5 ||| (r7 <<< (x4_5 &&& 31))) (x4_5 + 1) _ _ _ hF hw hl
        · skip
          have hF := hF.trans (if_pos c5)
          refine lv_iconst (v := 1) hx hb dX2_hoursOpen_27 (by decide) ?_
          refine lv_goto (tgt := 32) hx hb dX2_hoursOpen_28 (by decide) ?_
          have hs9 : g_X7_bit v 1 ≠ none := fun q => hs (hF.trans (kb_n q _))
          refine km_cSN (As := [.int 1]) (rest := [.int x3_5]) (n := 1) ⟨hx, hb, hml, hown, hts⟩ (d_X7_bit l E Z v 1 hs9) gX2_hoursOpen_X7_bit_n92 rfl (hts (.initialized RX7) (by decide +kernel)) (by decide +kernel) (hts (.static yX7_bit) (by decide +kernel)) (by decide +kernel) ⟨Nat.le_of_ble_eq_true rfl, Nat.le_of_ble_eq_true rfl⟩ hK hw rfl hl.1 rfl (Nat.le_of_ble_eq_true rfl) dX2_hoursOpen_32 rfl rfl (fun r10 v11 H locs hp hw => ?_)
          obtain ⟨hp, rfl⟩ := hp
          have hF := hF.trans (kb_some hp _)
          refine lv_iload hx hb dX2_hoursOpen_35 (lv_at hl 4 rfl) ?_
          refine lv_ishl hx hb dX2_hoursOpen_37 ?_
          refine lv_ior hx hb dX2_hoursOpen_38 ?_
          refine lv_istore_n (lv' := [(3, .int (x3_5 ||| (r10 <<< (x4_5 &&& 31)))), (0, .ref (Z.1 6 i0)), (1, .int a1), (2, .int a2), (4, .int x4_5)]) hx hb dX2_hoursOpen_39 rfl hl (by decide) rfl (fun ls hl => ?_)
          refine lv_iinc (v := x4_5 + 1) (lv' := [(4, .int (x4_5 + 1)), (3, .int (x3_5 ||| (r10 <<< (x4_5 &&& 31)))), (0, .ref (Z.1 6 i0)), (1, .int a1), (2, .int a2)]) hx hb dX2_hoursOpen_40 hl (k := 4) rfl rfl (by decide) rfl (fun ls hl => ?_)
          refine lv_goto (tgt := 5) hx hb dX2_hoursOpen_43 (by decide) ?_
          have hl := lv_sub (l' := [(0, .ref (Z.1 6 i0)), (1, .int a1), (2, .int a2), (3, .int (x3_5 ||| (r10 <<< (x4_5 &&& 31)))), (4, .int (x4_5 + 1))]) hl [2, 3, 4, 1, 0] rfl
          exact ih5 (x3_5 ||| (r10 <<< (x4_5 &&& 31))) (x4_5 + 1) _ _ _ hF hw hl
  refine lv_iconst (v := 0) hx hb dX2_hoursOpen_0 (by decide) ?_
  refine lv_istore_n (lv' := [(3, .int 0), (0, .ref (Z.1 6 i0)), (1, .int a1), (2, .int a2)]) hx hb dX2_hoursOpen_1 rfl hl (by decide) rfl (fun ls hl => ?_)
  refine lv_iconst (v := 0) hx hb dX2_hoursOpen_2 (by decide) ?_
  refine lv_istore (lv' := [(4, .int 0), (3, .int 0), (0, .ref (Z.1 6 i0)), (1, .int a1), (2, .int a2)]) hx hb dX2_hoursOpen_3 hl (by decide) rfl (fun ls hl => ?_)
  have hl := lv_sub (l' := [(0, .ref (Z.1 6 i0)), (1, .int a1), (2, .int a2), (3, .int 0), (4, .int 0)]) hl [2, 3, 4, 1, 0] rfl
  exact loop5 2000 0 0 _ _ _ hF hw hl
abbrev rmX2_nightsUntil : Room := { frames := 3, cells := 0, slots := 0, locals := 66 }
def b_X2_nightsUntil_L2  (rec2 : Int32 → Option (Int32)) (v : Mm) (i0 : Nat) (a1 : Int32) (x2_2 : Int32) : Option (Int32) := if 60 < x2_2 then (some ((-1000000))) else (Option.bind (g_X2_secretIn v i0 x2_2) (fun r3 => if r3 = a1 then (some x2_2) else (rec2 (x2_2 + 1))))
def g_X2_nightsUntil_L2  (v : Mm) (i0 : Nat) (a1 : Int32) : Nat → Int32 → Option (Int32)
  | 0 => fun _ => none
  | n + 1 => b_X2_nightsUntil_L2  (g_X2_nightsUntil_L2  v i0 a1 n) v i0 a1
def g_X2_nightsUntil (v : Mm) (i0 : Nat) (a1 : Int32) : Option (Int32) := g_X2_nightsUntil_L2  v i0 a1 2000 0
set_option maxHeartbeats 4000000 in
set_option maxRecDepth 100000 in
theorem d_X2_nightsUntil (l : Launch) (E : kq_T) (Z : km_Z) (v : Mm) (i0 : Nat) (h_i0 : i0 < cntX 6) (a1 : Int32) (hs : g_X2_nightsUntil v i0 a1 ≠ none) : km_I l E Z cntX yX2_nightsUntil wsX2_nightsUntil rmX2_nightsUntil [.ref (Z.1 6 i0), .int a1] v (fun r v1 => g_X2_nightsUntil v i0 a1 = some r ∧ v = v1) := by
  refine km_goI (cc := cX2_nightsUntil) (maxL := 3) (by decide) rfl (Nat.le_of_ble_eq_true rfl) rfl rfl rfl ?_
  intro p e s m below meth c A ls Q C hK hw hl hret
  obtain ⟨hx, hb, hml, hown, hts, -, -, -⟩ := C
  have hown : s.vm.findClass RX2 = some m.cls := hown
  have hl : lv_has ls 3 [(0, .ref (Z.1 6 i0)), (1, .int a1)] := hl
  have hF := g_X2_nightsUntil.eq_1 v i0 a1
  have loop2 : ∀ (n2 : Nat) (x2_2 : Int32) (H : Heap) (locs : List Loc) (ls : Array Slot), g_X2_nightsUntil v i0 a1 = g_X2_nightsUntil_L2  v i0 a1 n2 x2_2 → km_w E A s.heap [] Z cntX v H locs → lv_has ls 3 [(0, .ref (Z.1 6 i0)), (1, .int a1), (2, .int x2_2)] → W p l e rmX2_nightsUntil s m [.ref (Z.1 6 i0), .int a1].toArray below meth c H locs 0 0 Q (F0 m 2 ls []) := by
    intro n2
    induction n2 with
    | zero => intro x2_2 H locs ls hF hw hl; exact absurd (show g_X2_nightsUntil v i0 a1 = none from hF) hs
    | succ n2 ih2 =>
      intro x2_2 H locs ls hF hw hl
      have hF := hF.trans (b_X2_nightsUntil_L2.eq_1  (g_X2_nightsUntil_L2  v i0 a1 n2) v i0 a1 x2_2)
      refine lv_iload_n hx hb dX2_nightsUntil_2 rfl (lv_at hl 2 rfl) ?_
      refine lv_bipush (v := 60) hx hb dX2_nightsUntil_3 (by decide) ?_
      refine lv_icmp_gt (tgt := 25) hx hb dX2_nightsUntil_5 (by decide) (fun c1 => ?_) (fun c1 => ?_)
      · skip
        have hF := hF.trans (if_pos c1)
        refine lv_ldc (v := (-1000000)) hx hb hown (hts (.constant RX2 103 (-1000000)) ow_X2_nightsUntil_103) dX2_nightsUntil_25 ?_
        exact hret _ _ _ _ _ _ hw dX2_nightsUntil_27 ⟨hF, rfl⟩
      · skip
        have hF := hF.trans (if_neg c1)
        refine lv_aload_n hx hb dX2_nightsUntil_8 rfl (lv_at hl 0 rfl) ?_
        refine lv_iload_n hx hb dX2_nightsUntil_9 rfl (lv_at hl 2 rfl) ?_
        have hs2 : g_X2_secretIn v i0 x2_2 ≠ none := fun q => hs (hF.trans (kb_n q _))
        refine km_cI (As := [.int x2_2]) (rest := []) (n := 1) (q := (RX2, TX2, 8)) (ci := 2) (t := 6) (i := i0) ⟨hx, hb, hml, hown, hts⟩ (d_X2_secretIn l E Z v i0 h_i0 x2_2 hs2) gX2_nightsUntil_X2_secretIn rfl hV_X2_secretIn ⟨Nat.le_of_ble_eq_true rfl, Nat.le_of_ble_eq_true rfl⟩ hK hw (by decide) h_i0 rfl rfl rfl hl.1 rfl (Nat.le_of_ble_eq_true rfl) dX2_nightsUntil_10 rfl rfl (fun r3 v4 H locs hp hw => ?_)
        obtain ⟨hp, rfl⟩ := hp
        have hF := hF.trans (kb_some hp _)
        refine lv_iload_n hx hb dX2_nightsUntil_13 rfl (lv_at hl 1 rfl) ?_
        refine lv_icmp_ne (tgt := 19) hx hb dX2_nightsUntil_14 (by decide) (fun c5 => ?_) (fun c5 => ?_)
        · skip
          have hF := hF.trans (if_neg c5)
          refine lv_iinc (v := x2_2 + 1) (lv' := [(2, .int (x2_2 + 1)), (0, .ref (Z.1 6 i0)), (1, .int a1)]) hx hb dX2_nightsUntil_19 hl (k := 2) rfl rfl (by decide) rfl (fun ls hl => ?_)
          refine lv_goto (tgt := 2) hx hb dX2_nightsUntil_22 (by decide) ?_
          have hl := lv_sub (l' := [(0, .ref (Z.1 6 i0)), (1, .int a1), (2, .int (x2_2 + 1))]) hl [1, 2, 0] rfl
          exact ih2 (x2_2 + 1) _ _ _ hF hw hl
        · skip
          have hF := hF.trans (if_pos c5)
          refine lv_iload_n hx hb dX2_nightsUntil_17 rfl (lv_at hl 2 rfl) ?_
          exact hret _ _ _ _ _ _ hw dX2_nightsUntil_18 ⟨hF, rfl⟩
  refine lv_iconst (v := 0) hx hb dX2_nightsUntil_0 (by decide) ?_
  refine lv_istore_n (lv' := [(2, .int 0), (0, .ref (Z.1 6 i0)), (1, .int a1)]) hx hb dX2_nightsUntil_1 rfl hl (by decide) rfl (fun ls hl => ?_)
  have hl := lv_sub (l' := [(0, .ref (Z.1 6 i0)), (1, .int a1), (2, .int 0)]) hl [1, 2, 0] rfl
  exact loop2 2000 0 _ _ _ hF hw hl
abbrev rmX2_hourIn : Room := { frames := 4, cells := 0, slots := 0, locals := 96 }
def b_X2_hourIn_L2  (rec2 : Int32 → Option (Int32)) (v : Mm) (i0 : Nat) (a1 : Int32) (a2 : Int32) (x3_2 : Int32) : Option (Int32) := if 6 ≤ x3_2 then (some ((-1000000))) else (Option.bind (g_X2_catches v i0 a1 x3_2 0) (fun r3 => if r3 = 0 then (some x3_2) else (rec2 (x3_2 + 1))))
def g_X2_hourIn_L2  (v : Mm) (i0 : Nat) (a1 : Int32) (a2 : Int32) : Nat → Int32 → Option (Int32)
  | 0 => fun _ => none
  | n + 1 => b_X2_hourIn_L2  (g_X2_hourIn_L2  v i0 a1 a2 n) v i0 a1 a2
def g_X2_hourIn (v : Mm) (i0 : Nat) (a1 : Int32) (a2 : Int32) : Option (Int32) := g_X2_hourIn_L2  v i0 a1 a2 2000 a2
set_option maxHeartbeats 4000000 in
set_option maxRecDepth 100000 in
theorem d_X2_hourIn (l : Launch) (E : kq_T) (Z : km_Z) (v : Mm) (i0 : Nat) (h_i0 : i0 < cntX 6) (a1 : Int32) (a2 : Int32) (hs : g_X2_hourIn v i0 a1 a2 ≠ none) : km_I l E Z cntX yX2_hourIn wsX2_hourIn rmX2_hourIn [.ref (Z.1 6 i0), .int a1, .int a2] v (fun r v1 => g_X2_hourIn v i0 a1 a2 = some r ∧ v = v1) := by
  refine km_goI (cc := cX2_hourIn) (maxL := 4) (by decide) rfl (Nat.le_of_ble_eq_true rfl) rfl rfl rfl ?_
  intro p e s m below meth c A ls Q C hK hw hl hret
  obtain ⟨hx, hb, hml, hown, hts, -, -, -⟩ := C
  have hown : s.vm.findClass RX2 = some m.cls := hown
  have hl : lv_has ls 4 [(0, .ref (Z.1 6 i0)), (1, .int a1), (2, .int a2)] := hl
  have hF := g_X2_hourIn.eq_1 v i0 a1 a2
  have loop2 : ∀ (n2 : Nat) (x3_2 : Int32) (H : Heap) (locs : List Loc) (ls : Array Slot), g_X2_hourIn v i0 a1 a2 = g_X2_hourIn_L2  v i0 a1 a2 n2 x3_2 → km_w E A s.heap [] Z cntX v H locs → lv_has ls 4 [(0, .ref (Z.1 6 i0)), (1, .int a1), (2, .int a2), (3, .int x3_2)] → W p l e rmX2_hourIn s m [.ref (Z.1 6 i0), .int a1, .int a2].toArray below meth c H locs 0 0 Q (F0 m 2 ls []) := by
    intro n2
    induction n2 with
    | zero => intro x3_2 H locs ls hF hw hl; exact absurd (show g_X2_hourIn v i0 a1 a2 = none from hF) hs
    | succ n2 ih2 =>
      intro x3_2 H locs ls hF hw hl
      have hF := hF.trans (b_X2_hourIn_L2.eq_1  (g_X2_hourIn_L2  v i0 a1 a2 n2) v i0 a1 a2 x3_2)
      refine lv_iload_n hx hb dX2_hourIn_2 rfl (lv_at hl 3 rfl) ?_
      refine lv_bipush (v := 6) hx hb dX2_hourIn_3 (by decide) ?_
      refine lv_icmp_ge (tgt := 26) hx hb dX2_hourIn_5 (by decide) (fun c1 => ?_) (fun c1 => ?_)
      · skip
        have hF := hF.trans (if_pos c1)
        refine lv_ldc (v := (-1000000)) hx hb hown (hts (.constant RX2 103 (-1000000)) ow_X2_hourIn_103) dX2_hourIn_26 ?_
        exact hret _ _ _ _ _ _ hw dX2_hourIn_28 ⟨hF, rfl⟩
      · skip
        have hF := hF.trans (if_neg c1)
        refine lv_aload_n hx hb dX2_hourIn_8 rfl (lv_at hl 0 rfl) ?_
        refine lv_iload_n hx hb dX2_hourIn_9 rfl (lv_at hl 1 rfl) ?_
        refine lv_iload_n hx hb dX2_hourIn_10 rfl (lv_at hl 3 rfl) ?_
        refine lv_iconst (v := 0) hx hb dX2_hourIn_11 (by decide) ?_
        have hs2 : g_X2_catches v i0 a1 x3_2 0 ≠ none := fun q => hs (hF.trans (kb_n q _))
        refine km_cI (As := [.int a1, .int x3_2, .int 0]) (rest := []) (n := 3) (q := (RX2, TX2, 8)) (ci := 2) (t := 6) (i := i0) ⟨hx, hb, hml, hown, hts⟩ (d_X2_catches l E Z v i0 h_i0 a1 x3_2 0 hs2) gX2_hourIn_X2_catches rfl hV_X2_catches ⟨Nat.le_of_ble_eq_true rfl, Nat.le_of_ble_eq_true rfl⟩ hK hw (by decide) h_i0 rfl rfl rfl hl.1 rfl (Nat.le_of_ble_eq_true rfl) dX2_hourIn_12 rfl rfl (fun r3 v4 H locs hp hw => ?_)
        obtain ⟨hp, hzr3⟩ := hp
        obtain ⟨hp, rfl⟩ := hp
        have hF := hF.trans (kb_some hp _)
        refine lv_if_ne (tgt := 20) hx hb dX2_hourIn_15 (by decide) (fun c5 => ?_) (fun c5 => ?_)
        · skip
          have hF := hF.trans (if_neg c5)
          refine lv_iinc (v := x3_2 + 1) (lv' := [(3, .int (x3_2 + 1)), (0, .ref (Z.1 6 i0)), (1, .int a1), (2, .int a2)]) hx hb dX2_hourIn_20 hl (k := 3) rfl rfl (by decide) rfl (fun ls hl => ?_)
          refine lv_goto (tgt := 2) hx hb dX2_hourIn_23 (by decide) ?_
          have hl := lv_sub (l' := [(0, .ref (Z.1 6 i0)), (1, .int a1), (2, .int a2), (3, .int (x3_2 + 1))]) hl [1, 2, 3, 0] rfl
          exact ih2 (x3_2 + 1) _ _ _ hF hw hl
        · skip
          have hF := hF.trans (if_pos c5)
          refine lv_iload_n hx hb dX2_hourIn_18 rfl (lv_at hl 3 rfl) ?_
          exact hret _ _ _ _ _ _ hw dX2_hourIn_19 ⟨hF, rfl⟩
  refine lv_iload_n hx hb dX2_hourIn_0 rfl (lv_at hl 2 rfl) ?_
  refine lv_istore_n (lv' := [(3, .int a2), (0, .ref (Z.1 6 i0)), (1, .int a1), (2, .int a2)]) hx hb dX2_hourIn_1 rfl hl (by decide) rfl (fun ls hl => ?_)
  have hl := lv_sub (l' := [(0, .ref (Z.1 6 i0)), (1, .int a1), (2, .int a2), (3, .int a2)]) hl [1, 2, 3, 0] rfl
  exact loop2 2000 a2 _ _ _ hF hw hl
abbrev rmX2_guardsAgainst : Room := { frames := 5, cells := 0, slots := 0, locals := 120 }
def b_X2_guardsAgainst_L5  (rec5 : Int32 → Int32 → Option (Int32)) (v : Mm) (i0 : Nat) (a1 : Int32) (a2 : Int32) (x3_5 : Int32) (x4_5 : Int32) : Option (Int32) := if 6 ≤ x4_5 then (some x3_5) else (Option.bind (g_X2_wordsIn v i0 x4_5 a2) (fun r3 => if a1 &&& (r3 ^^^ ((-1))) = 0 then (rec5 x3_5 (x4_5 + 1)) else (Option.bind (g_X2_guardOn v i0 ((v 10 i0 4) + a2) x4_5) (fun r7 => Option.bind (some (x3_5 ||| ((1 : Int32) <<< (r7 &&& 31)))) (fun x9 => rec5 x9 (x4_5 + 1))))))
def g_X2_guardsAgainst_L5  (v : Mm) (i0 : Nat) (a1 : Int32) (a2 : Int32) : Nat → Int32 → Int32 → Option (Int32)
  | 0 => fun _ _ => none
  | n + 1 => b_X2_guardsAgainst_L5  (g_X2_guardsAgainst_L5  v i0 a1 a2 n) v i0 a1 a2
def g_X2_guardsAgainst (v : Mm) (i0 : Nat) (a1 : Int32) (a2 : Int32) : Option (Int32) := g_X2_guardsAgainst_L5  v i0 a1 a2 2000 0 0
set_option maxHeartbeats 4000000 in
set_option maxRecDepth 100000 in
theorem d_X2_guardsAgainst (l : Launch) (E : kq_T) (Z : km_Z) (v : Mm) (i0 : Nat) (h_i0 : i0 < cntX 6) (a1 : Int32) (a2 : Int32) (hs : g_X2_guardsAgainst v i0 a1 a2 ≠ none) : km_I l E Z cntX yX2_guardsAgainst wsX2_guardsAgainst rmX2_guardsAgainst [.ref (Z.1 6 i0), .int a1, .int a2] v (fun r v1 => g_X2_guardsAgainst v i0 a1 a2 = some r ∧ v = v1) := by
  refine km_goI (cc := cX2_guardsAgainst) (maxL := 5) (by decide) rfl (Nat.le_of_ble_eq_true rfl) rfl rfl rfl ?_
  intro p e s m below meth c A ls Q C hK hw hl hret
  obtain ⟨hx, hb, hml, hown, hts, -, -, -⟩ := C
  have hown : s.vm.findClass RX2 = some m.cls := hown
  have hl : lv_has ls 5 [(0, .ref (Z.1 6 i0)), (1, .int a1), (2, .int a2)] := hl
  have hF := g_X2_guardsAgainst.eq_1 v i0 a1 a2
  have loop5 : ∀ (n5 : Nat) (x3_5 : Int32) (x4_5 : Int32) (H : Heap) (locs : List Loc) (ls : Array Slot), g_X2_guardsAgainst v i0 a1 a2 = g_X2_guardsAgainst_L5  v i0 a1 a2 n5 x3_5 x4_5 → km_w E A s.heap [] Z cntX v H locs → lv_has ls 5 [(0, .ref (Z.1 6 i0)), (1, .int a1), (2, .int a2), (3, .int x3_5), (4, .int x4_5)] → W p l e rmX2_guardsAgainst s m [.ref (Z.1 6 i0), .int a1, .int a2].toArray below meth c H locs 0 0 Q (F0 m 5 ls []) := by
    intro n5
    induction n5 with
    | zero => intro x3_5 x4_5 H locs ls hF hw hl; exact absurd (show g_X2_guardsAgainst v i0 a1 a2 = none from hF) hs
    | succ n5 ih5 =>
      intro x3_5 x4_5 H locs ls hF hw hl
      have hF := hF.trans (b_X2_guardsAgainst_L5.eq_1  (g_X2_guardsAgainst_L5  v i0 a1 a2 n5) v i0 a1 a2 x3_5 x4_5)
      refine lv_iload hx hb dX2_guardsAgainst_5 (lv_at hl 4 rfl) ?_
      refine lv_bipush (v := 6) hx hb dX2_guardsAgainst_7 (by decide) ?_
      refine lv_icmp_ge (tgt := 52) hx hb dX2_guardsAgainst_9 (by decide) (fun c1 => ?_) (fun c1 => ?_)
      · skip
        have hF := hF.trans (if_pos c1)
        refine lv_iload_n hx hb dX2_guardsAgainst_52 rfl (lv_at hl 3 rfl) ?_
        exact hret _ _ _ _ _ _ hw dX2_guardsAgainst_53 ⟨hF, rfl⟩
      · skip
        have hF := hF.trans (if_neg c1)
        refine lv_iload_n hx hb dX2_guardsAgainst_12 rfl (lv_at hl 1 rfl) ?_
        refine lv_aload_n hx hb dX2_guardsAgainst_13 rfl (lv_at hl 0 rfl) ?_
        refine lv_iload hx hb dX2_guardsAgainst_14 (lv_at hl 4 rfl) ?_
        refine lv_iload_n hx hb dX2_guardsAgainst_16 rfl (lv_at hl 2 rfl) ?_
        have hs2 : g_X2_wordsIn v i0 x4_5 a2 ≠ none := fun q => hs (hF.trans (kb_n q _))
        refine km_cI (As := [.int x4_5, .int a2]) (rest := [.int a1]) (n := 2) (q := (RX2, TX2, 8)) (ci := 2) (t := 6) (i := i0) ⟨hx, hb, hml, hown, hts⟩ (d_X2_wordsIn l E Z v i0 h_i0 x4_5 a2 hs2) gX2_guardsAgainst_X2_wordsIn rfl hV_X2_wordsIn ⟨Nat.le_of_ble_eq_true rfl, Nat.le_of_ble_eq_true rfl⟩ hK hw (by decide) h_i0 rfl rfl rfl hl.1 rfl (Nat.le_of_ble_eq_true rfl) dX2_guardsAgainst_17 rfl rfl (fun r3 v4 H locs hp hw => ?_)
        obtain ⟨hp, rfl⟩ := hp
        have hF := hF.trans (kb_some hp _)
        refine lv_iconst (v := (-1)) hx hb dX2_guardsAgainst_20 (by decide) ?_
        refine lv_ixor hx hb dX2_guardsAgainst_21 ?_
        refine lv_iand hx hb dX2_guardsAgainst_22 ?_
        refine lv_if_eq (tgt := 46) hx hb dX2_guardsAgainst_23 (by decide) (fun c5 => ?_) (fun c5 => ?_)
        · skip
          have hF := hF.trans (if_pos c5)
          refine lv_iinc (v := x4_5 + 1) (lv' := [(4, .int (x4_5 + 1)), (0, .ref (Z.1 6 i0)), (1, .int a1), (2, .int a2), (3, .int x3_5)]) hx hb dX2_guardsAgainst_46 hl (k := 4) rfl rfl (by decide) rfl (fun ls hl => ?_)
          refine lv_goto (tgt := 5) hx hb dX2_guardsAgainst_49 (by decide) ?_
          have hl := lv_sub (l' := [(0, .ref (Z.1 6 i0)), (1, .int a1), (2, .int a2), (3, .int x3_5), (4, .int (x4_5 + 1))]) hl [1, 2, 3, 4, 0] rfl
          exact ih5 x3_5 (x4_5 + 1) _ _ _ hF hw hl
        · skip
          have hF := hF.trans (if_neg c5)
          refine lv_iload_n hx hb dX2_guardsAgainst_26 rfl (lv_at hl 3 rfl) ?_
          refine lv_iconst (v := 1) hx hb dX2_guardsAgainst_27 (by decide) ?_
          refine lv_aload_n hx hb dX2_guardsAgainst_28 rfl (lv_at hl 0 rfl) ?_
          refine lv_aload_n hx hb dX2_guardsAgainst_29 rfl (lv_at hl 0 rfl) ?_
          refine km_get (ci := 2) (C := RX2) (T := TX2) (N := 8) (t := 6) (i := i0) hx hb hts fi_X2_guardsAgainst_X2 hown hK hw (by decide) h_i0 rfl rfl 3 (by decide) (hts (.fieldLink RX2 24 "WrongWord$Gate" "now" "LWrongWord$Moment;") ow_X2_guardsAgainst_24) rfl dX2_guardsAgainst_30 ?_
          refine km_get (ci := 4) (C := RX4) (T := TX4) (N := 8) (t := 10) (i := i0) hx hb hts fi_X2_guardsAgainst_X4 hown hK hw (by decide) (Nat.lt_of_lt_of_le (show i0 < cntX 6 from h_i0) (by decide)) rfl rfl 4 (by decide) (hts (.fieldLink RX2 58 "WrongWord$Moment" "night" "I") ow_X2_guardsAgainst_58) rfl dX2_guardsAgainst_33 ?_
          refine lv_iload_n hx hb dX2_guardsAgainst_36 rfl (lv_at hl 2 rfl) ?_
          refine lv_iadd hx hb dX2_guardsAgainst_37 ?_
          refine lv_iload hx hb dX2_guardsAgainst_38 (lv_at hl 4 rfl) ?_
          have hs6 : g_X2_guardOn v i0 ((v 10 i0 4) + a2) x4_5 ≠ none := fun q => hs (hF.trans (kb_n q _))
          refine km_cI (As := [.int ((v 10 i0 4) + a2), .int x4_5]) (rest := [.int 1, .int x3_5]) (n := 2) (q := (RX2, TX2, 8)) (ci := 2) (t := 6) (i := i0) ⟨hx, hb, hml, hown, hts⟩ (d_X2_guardOn l E Z v i0 h_i0 ((v 10 i0 4) + a2) x4_5 hs6) gX2_guardsAgainst_X2_guardOn rfl hV_X2_guardOn ⟨Nat.le_of_ble_eq_true rfl, Nat.le_of_ble_eq_true rfl⟩ hK hw (by decide) h_i0 rfl rfl rfl hl.1 rfl (Nat.le_of_ble_eq_true rfl) dX2_guardsAgainst_40 rfl rfl (fun r7 v8 H locs hp hw => ?_)
          obtain ⟨hp, rfl⟩ := hp
          have hF := hF.trans (kb_some hp _)
          refine lv_ishl hx hb dX2_guardsAgainst_43 ?_
          refine lv_ior hx hb dX2_guardsAgainst_44 ?_
          refine lv_topi (fun x9 ex9 => ?_)
          have hF := hF.trans (kb_some (congrArg some ex9.symm) _)
          refine lv_istore_n (lv' := [(3, .int x9), (0, .ref (Z.1 6 i0)), (1, .int a1), (2, .int a2), (4, .int x4_5)]) hx hb dX2_guardsAgainst_45 rfl hl (by decide) rfl (fun ls hl => ?_)
          refine lv_iinc (v := x4_5 + 1) (lv' := [(4, .int (x4_5 + 1)), (3, .int x9), (0, .ref (Z.1 6 i0)), (1, .int a1), (2, .int a2)]) hx hb dX2_guardsAgainst_46 hl (k := 4) rfl rfl (by decide) rfl (fun ls hl => ?_)
          refine lv_goto (tgt := 5) hx hb dX2_guardsAgainst_49 (by decide) ?_
          have hl := lv_sub (l' := [(0, .ref (Z.1 6 i0)), (1, .int a1), (2, .int a2), (3, .int x9), (4, .int (x4_5 + 1))]) hl [2, 3, 4, 1, 0] rfl
          exact ih5 x9 (x4_5 + 1) _ _ _ hF hw hl
  refine lv_iconst (v := 0) hx hb dX2_guardsAgainst_0 (by decide) ?_
  refine lv_istore_n (lv' := [(3, .int 0), (0, .ref (Z.1 6 i0)), (1, .int a1), (2, .int a2)]) hx hb dX2_guardsAgainst_1 rfl hl (by decide) rfl (fun ls hl => ?_)
  refine lv_iconst (v := 0) hx hb dX2_guardsAgainst_2 (by decide) ?_
  refine lv_istore (lv' := [(4, .int 0), (3, .int 0), (0, .ref (Z.1 6 i0)), (1, .int a1), (2, .int a2)]) hx hb dX2_guardsAgainst_3 hl (by decide) rfl (fun ls hl => ?_)
  have hl := lv_sub (l' := [(0, .ref (Z.1 6 i0)), (1, .int a1), (2, .int a2), (3, .int 0), (4, .int 0)]) hl [2, 3, 4, 1, 0] rfl
  exact loop5 2000 0 0 _ _ _ hF hw hl
