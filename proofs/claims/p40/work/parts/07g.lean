abbrev rmX8_begins : Room := { frames := 0, cells := 0, slots := 0, locals := 0 }
def g_X8_begins (v : Mm) (a1 : Int32) : Option (Mm) := if 16 ≤ v 30 0 22 then (some v) else (if v 30 0 22 < 0 ∨ 16 ≤ Int32.toNatClampNeg (v 30 0 22) then none else (Option.bind (some (up3 v 43 0 (Int32.toNatClampNeg (v 30 0 22)) a1)) (fun v3 => Option.bind (some (up3 v3 30 0 22 ((v3 30 0 22) + 1))) (fun v4 => some v4))))
set_option maxHeartbeats 4000000 in
set_option maxRecDepth 100000 in
theorem d_X8_begins (l : Launch) (E : kq_T) (Z : km_Z) (v : Mm) (a1 : Int32) (hs : g_X8_begins v a1 ≠ none) : km_V l E Z cntM yX8_begins wsX8_begins rmX8_begins [.ref (Z.1 30 0), .int a1] v (fun v1 => g_X8_begins v a1 = some v1) := by
  refine km_goV (cc := cX8_begins) (maxL := 2) (by decide) rfl (Nat.le_of_ble_eq_true rfl) rfl rfl rfl ?_
  intro p e s m below meth c A ls Q C hK hw hl hret
  obtain ⟨hx, hb, hml, hown, hts, -, -, -⟩ := C
  have hown : s.vm.findClass RX8 = some m.cls := hown
  have hl : lv_has ls 2 [(0, .ref (Z.1 30 0)), (1, .int a1)] := hl
  have hF := g_X8_begins.eq_1 v a1
  refine lv_aload_n hx hb dX8_begins_0 rfl (lv_at hl 0 rfl) ?_
  refine km_get (ci := 8) (C := RX8) (T := TX8) (N := 23) (t := 30) (i := 0) hx hb hts fi_X8_begins_X8 hown hK hw (by decide) (by decide) rfl rfl 22 (by decide) (hts (.fieldLink RX8 237 "WrongWordModel" "traced" "I") ow_X8_begins_237) rfl dX8_begins_1 ?_
  refine lv_bipush (v := 16) hx hb dX8_begins_4 (by decide) ?_
  refine lv_icmp_ge (tgt := 29) hx hb dX8_begins_6 (by decide) (fun c1 => ?_) (fun c1 => ?_)
  · skip
    have hF := hF.trans (if_pos c1)
    exact hret _ _ _ _ _ hw dX8_begins_29 hF
  · skip
    have hF := hF.trans (if_neg c1)
    refine lv_aload_n hx hb dX8_begins_9 rfl (lv_at hl 0 rfl) ?_
    refine km_get (ci := 8) (C := RX8) (T := TX8) (N := 23) (t := 30) (i := 0) hx hb hts fi_X8_begins_X8 hown hK hw (by decide) (by decide) rfl rfl 21 (by decide) (hts (.fieldLink RX8 47 "WrongWordModel" "trace" "[I") ow_X8_begins_47) rfl dX8_begins_10 ?_
    refine lv_aload_n hx hb dX8_begins_13 rfl (lv_at hl 0 rfl) ?_
    refine km_get (ci := 8) (C := RX8) (T := TX8) (N := 23) (t := 30) (i := 0) hx hb hts fi_X8_begins_X8 hown hK hw (by decide) (by decide) rfl rfl 22 (by decide) (hts (.fieldLink RX8 237 "WrongWordModel" "traced" "I") ow_X8_begins_237) rfl dX8_begins_14 ?_
    refine lv_iload_n hx hb dX8_begins_17 rfl (lv_at hl 1 rfl) ?_
    have hb2 : ¬ (v 30 0 22 < 0 ∨ 16 ≤ Int32.toNatClampNeg (v 30 0 22)) := fun q => hs (hF.trans (if_pos q))
    have hF := hF.trans (if_neg hb2)
    refine km_iast (t := 43) (i := 0) (n := 16) hx hb hK hw (by decide) (by decide) (fun _ => rfl) hb2 dX8_begins_18 (fun H locs hw => ?_)
    obtain ⟨v3, ev3⟩ : ∃ z, z = up3 v 43 0 (Int32.toNatClampNeg (v 30 0 22)) a1 := ⟨_, rfl⟩
    rw [← ev3] at hw
    have hF := hF.trans (kb_some (congrArg some ev3.symm) _)
    refine lv_aload_n hx hb dX8_begins_19 rfl (lv_at hl 0 rfl) ?_
    refine lv_dup hx hb dX8_begins_20 rfl ?_
    refine km_get (ci := 8) (C := RX8) (T := TX8) (N := 23) (t := 30) (i := 0) hx hb hts fi_X8_begins_X8 hown hK hw (by decide) (by decide) rfl rfl 22 (by decide) (hts (.fieldLink RX8 237 "WrongWordModel" "traced" "I") ow_X8_begins_237) rfl dX8_begins_21 ?_
    refine lv_iconst (v := 1) hx hb dX8_begins_24 (by decide) ?_
    refine lv_iadd hx hb dX8_begins_25 ?_
    refine km_put (ci := 8) (C := RX8) (T := TX8) (N := 23) (t := 30) (i := 0) hx hb hts fi_X8_begins_X8 tyX8 tyX8_ok nmX8 hown hK hw (by decide) (by decide) rfl rfl 22 (by decide) (hts (.fieldLink RX8 237 "WrongWordModel" "traced" "I") ow_X8_begins_237) rfl (by decide +kernel) (Nat.le_of_ble_eq_true rfl) rfl dX8_begins_26 (fun H locs hw => ?_)
    obtain ⟨v4, ev4⟩ : ∃ z, z = up3 v3 30 0 22 ((v3 30 0 22) + 1) := ⟨_, rfl⟩
    rw [← ev4] at hw
    have hF := hF.trans (kb_some (congrArg some ev4.symm) _)
    exact hret _ _ _ _ _ hw dX8_begins_29 hF
abbrev rmX8_keenMark : Room := { frames := 1, cells := 0, slots := 0, locals := 21 }
def g_X8_keenMark (v : Mm) (a1 : Int32) : Option (Int32 × Mm) := Option.bind (g_X8_kindIn v a1) (fun r2 => if r2 = 1 then (Option.bind (g_X8_begins v 21) (fun v7 => Option.bind (g_X8_begins v7 20) (fun v10 => if ((26 : Int32) + ((3 : Int32) * a1)) + 2 < 0 ∨ 65 ≤ Int32.toNatClampNeg (((26 : Int32) + ((3 : Int32) * a1)) + 2) then none else (Option.bind (some (a1 + (v10 36 0 (Int32.toNatClampNeg (((26 : Int32) + ((3 : Int32) * a1)) + 2))))) (fun x12 => if r2 = 2 then (some ((2 : Int32) * x12, v10)) else (if r2 = 3 then (some (x12 - 1000, v10)) else (some (x12, v10)))))))) else (if r2 = 2 then (Option.bind (g_X8_begins v 24) (fun v31 => Option.bind (g_X8_begins v31 21) (fun v34 => Option.bind (g_X8_begins v34 20) (fun v37 => if ((26 : Int32) + ((3 : Int32) * a1)) + 2 < 0 ∨ 65 ≤ Int32.toNatClampNeg (((26 : Int32) + ((3 : Int32) * a1)) + 2) then none else (Option.bind (some (a1 + (v37 36 0 (Int32.toNatClampNeg (((26 : Int32) + ((3 : Int32) * a1)) + 2))))) (fun x39 => if r2 = 2 then (some ((2 : Int32) * x39, v37)) else (if r2 = 3 then (some (x39 - 1000, v37)) else (some (x39, v37))))))))) else (Option.bind (g_X8_begins v 22) (fun v18 => Option.bind (g_X8_begins v18 21) (fun v21 => Option.bind (g_X8_begins v21 20) (fun v24 => if ((26 : Int32) + ((3 : Int32) * a1)) + 2 < 0 ∨ 65 ≤ Int32.toNatClampNeg (((26 : Int32) + ((3 : Int32) * a1)) + 2) then none else (Option.bind (some (a1 + (v24 36 0 (Int32.toNatClampNeg (((26 : Int32) + ((3 : Int32) * a1)) + 2))))) (fun x26 => if r2 = 2 then (some ((2 : Int32) * x26, v24)) else (if r2 = 3 then (some (x26 - 1000, v24)) else (some (x26, v24)))))))))))
set_option maxHeartbeats 4000000 in
set_option maxRecDepth 100000 in
theorem d_X8_keenMark (l : Launch) (E : kq_T) (Z : km_Z) (v : Mm) (a1 : Int32) (hs : g_X8_keenMark v a1 ≠ none) : km_I l E Z cntM yX8_keenMark wsX8_keenMark rmX8_keenMark [.ref (Z.1 30 0), .int a1] v (fun r v1 => g_X8_keenMark v a1 = some (r, v1)) := by
  refine km_goI (cc := cX8_keenMark) (maxL := 4) (by decide) rfl (Nat.le_of_ble_eq_true rfl) rfl rfl rfl ?_
  intro p e s m below meth c A ls Q C hK hw hl hret
  obtain ⟨hx, hb, hml, hown, hts, -, -, -⟩ := C
  have hown : s.vm.findClass RX8 = some m.cls := hown
  have hl : lv_has ls 4 [(0, .ref (Z.1 30 0)), (1, .int a1)] := hl
  have hF := g_X8_keenMark.eq_1 v a1
  refine lv_aload_n hx hb dX8_keenMark_0 rfl (lv_at hl 0 rfl) ?_
  refine lv_iload_n hx hb dX8_keenMark_1 rfl (lv_at hl 1 rfl) ?_
  have hs1 : g_X8_kindIn v a1 ≠ none := fun q => hs (hF.trans (kb_n q _))
  refine km_cI (As := [.int a1]) (rest := []) (n := 1) (q := (RX8, TX8, 23)) (ci := 8) (t := 30) (i := 0) ⟨hx, hb, hml, hown, hts⟩ (d_X8_kindIn l E Z v a1 hs1) gX8_keenMark_X8_kindIn rfl hV_X8_kindIn ⟨Nat.le_of_ble_eq_true rfl, Nat.le_of_ble_eq_true rfl⟩ hK hw (by decide) (by decide) rfl rfl rfl hl.1 rfl (Nat.le_of_ble_eq_true rfl) dX8_keenMark_2 rfl rfl (fun r2 v3 H locs hp hw => ?_)
  obtain ⟨hp, rfl⟩ := hp
  have hF := hF.trans (kb_some hp _)
  refine lv_istore_n (lv' := [(2, .int r2), (0, .ref (Z.1 30 0)), (1, .int a1)]) hx hb dX8_keenMark_5 rfl hl (by decide) rfl (fun ls hl => ?_)
  refine lv_iload_n hx hb dX8_keenMark_6 rfl (lv_at hl 0 rfl) ?_
  refine lv_iconst (v := 1) hx hb dX8_keenMark_7 (by decide) ?_
  refine lv_icmp_eq (tgt := 27) hx hb dX8_keenMark_8 (by decide) (fun c4 => ?_) (fun c4 => ?_)
  · skip
    have hF := hF.trans (if_pos c4)
    refine lv_aload_n hx hb dX8_keenMark_27 rfl (lv_at hl 1 rfl) ?_
    refine lv_bipush (v := 21) hx hb dX8_keenMark_28 (by decide) ?_
    have hs5 : g_X8_begins v 21 ≠ none := fun q => hs (hF.trans (kb_n q _))
    refine km_cV (As := [.int 21]) (rest := []) (n := 1) (q := (RX8, TX8, 23)) (ci := 8) (t := 30) (i := 0) ⟨hx, hb, hml, hown, hts⟩ (d_X8_begins l E Z v 21 hs5) gX8_keenMark_X8_begins rfl hV_X8_begins ⟨Nat.le_of_ble_eq_true rfl, Nat.le_of_ble_eq_true rfl⟩ hK hw (by decide) (by decide) rfl rfl rfl hl.1 rfl (Nat.le_of_ble_eq_true rfl) dX8_keenMark_30 rfl rfl (fun v7 H locs hp hw => ?_)
    have hF := hF.trans (kb_some hp _)
    refine lv_aload_n hx hb dX8_keenMark_33 rfl (lv_at hl 1 rfl) ?_
    refine lv_bipush (v := 20) hx hb dX8_keenMark_34 (by decide) ?_
    have hs8 : g_X8_begins v7 20 ≠ none := fun q => hs (hF.trans (kb_n q _))
    refine km_cV (As := [.int 20]) (rest := []) (n := 1) (q := (RX8, TX8, 23)) (ci := 8) (t := 30) (i := 0) ⟨hx, hb, hml, hown, hts⟩ (d_X8_begins l E Z v7 20 hs8) gX8_keenMark_X8_begins rfl hV_X8_begins ⟨Nat.le_of_ble_eq_true rfl, Nat.le_of_ble_eq_true rfl⟩ hK hw (by decide) (by decide) rfl rfl rfl hl.1 rfl (Nat.le_of_ble_eq_true rfl) dX8_keenMark_36 rfl rfl (fun v10 H locs hp hw => ?_)
    have hF := hF.trans (kb_some hp _)
    refine lv_iload_n hx hb dX8_keenMark_39 rfl (lv_at hl 2 rfl) ?_
    refine lv_aload_n hx hb dX8_keenMark_40 rfl (lv_at hl 1 rfl) ?_
    refine km_get (ci := 8) (C := RX8) (T := TX8) (N := 23) (t := 30) (i := 0) hx hb hts fi_X8_keenMark_X8 hown hK hw (by decide) (by decide) rfl rfl 13 (by decide) (hts (.fieldLink RX8 25 "WrongWordModel" "now" "[I") ow_X8_keenMark_25) rfl dX8_keenMark_41 ?_
    refine lv_bipush (v := 26) hx hb dX8_keenMark_44 (by decide) ?_
    refine lv_iconst (v := 3) hx hb dX8_keenMark_46 (by decide) ?_
    refine lv_iload_n hx hb dX8_keenMark_47 rfl (lv_at hl 2 rfl) ?_
    refine lv_imul hx hb dX8_keenMark_48 ?_
    refine lv_iadd hx hb dX8_keenMark_49 ?_
    refine lv_iconst (v := 2) hx hb dX8_keenMark_50 (by decide) ?_
    refine lv_iadd hx hb dX8_keenMark_51 ?_
    have hb11 : ¬ (((26 : Int32) + ((3 : Int32) * a1)) + 2 < 0 ∨ 65 ≤ Int32.toNatClampNeg (((26 : Int32) + ((3 : Int32) * a1)) + 2)) := fun q => hs (hF.trans (if_pos q))
    have hF := hF.trans (if_neg hb11)
    refine km_iald (t := 36) (i := 0) hx hb hK hw (by decide) (by decide) rfl hb11 dX8_keenMark_52 ?_
    refine lv_iadd hx hb dX8_keenMark_53 ?_
    refine lv_topi (fun x12 ex12 => ?_)
    have hF := hF.trans (kb_some (congrArg some ex12.symm) _)
    refine lv_istore_n (lv' := [(3, .int x12), (2, .int r2), (0, .ref (Z.1 30 0)), (1, .int a1)]) hx hb dX8_keenMark_54 rfl hl (by decide) rfl (fun ls hl => ?_)
    refine lv_iload_n hx hb dX8_keenMark_55 rfl (lv_at hl 1 rfl) ?_
    refine lv_iconst (v := 2) hx hb dX8_keenMark_56 (by decide) ?_
    refine lv_icmp_ne (tgt := 66) hx hb dX8_keenMark_57 (by decide) (fun c13 => ?_) (fun c13 => ?_)
    · skip
      have hF := hF.trans (if_neg c13)
      refine lv_iload_n hx hb dX8_keenMark_66 rfl (lv_at hl 1 rfl) ?_
      refine lv_iconst (v := 3) hx hb dX8_keenMark_67 (by decide) ?_
      refine lv_icmp_ne (tgt := 79) hx hb dX8_keenMark_68 (by decide) (fun c14 => ?_) (fun c14 => ?_)
      · skip
        have hF := hF.trans (if_neg c14)
        refine lv_iload_n hx hb dX8_keenMark_79 rfl (lv_at hl 0 rfl) ?_
        exact hret _ _ _ _ _ _ hw dX8_keenMark_80 hF
      · skip
        have hF := hF.trans (if_pos c14)
        refine lv_iload_n hx hb dX8_keenMark_71 rfl (lv_at hl 0 rfl) ?_
        refine lv_sipush (v := 1000) hx hb dX8_keenMark_72 (by decide) ?_
        refine lv_isub hx hb dX8_keenMark_75 ?_
        refine lv_goto (tgt := 80) hx hb dX8_keenMark_76 (by decide) ?_
        exact hret _ _ _ _ _ _ hw dX8_keenMark_80 hF
    · skip
      have hF := hF.trans (if_pos c13)
      refine lv_iconst (v := 2) hx hb dX8_keenMark_60 (by decide) ?_
      refine lv_iload_n hx hb dX8_keenMark_61 rfl (lv_at hl 0 rfl) ?_
      refine lv_imul hx hb dX8_keenMark_62 ?_
      refine lv_goto (tgt := 80) hx hb dX8_keenMark_63 (by decide) ?_
      exact hret _ _ _ _ _ _ hw dX8_keenMark_80 hF
  · skip
    have hF := hF.trans (if_neg c4)
    refine lv_aload_n hx hb dX8_keenMark_11 rfl (lv_at hl 1 rfl) ?_
    refine lv_iload_n hx hb dX8_keenMark_12 rfl (lv_at hl 0 rfl) ?_
    refine lv_iconst (v := 2) hx hb dX8_keenMark_13 (by decide) ?_
    refine lv_icmp_ne (tgt := 22) hx hb dX8_keenMark_14 (by decide) (fun c15 => ?_) (fun c15 => ?_)
    · skip
      have hF := hF.trans (if_neg c15)
      refine lv_bipush (v := 22) hx hb dX8_keenMark_22 (by decide) ?_
      have hs16 : g_X8_begins v 22 ≠ none := fun q => hs (hF.trans (kb_n q _))
      refine km_cV (As := [.int 22]) (rest := []) (n := 1) (q := (RX8, TX8, 23)) (ci := 8) (t := 30) (i := 0) ⟨hx, hb, hml, hown, hts⟩ (d_X8_begins l E Z v 22 hs16) gX8_keenMark_X8_begins rfl hV_X8_begins ⟨Nat.le_of_ble_eq_true rfl, Nat.le_of_ble_eq_true rfl⟩ hK hw (by decide) (by decide) rfl rfl rfl hl.1 rfl (Nat.le_of_ble_eq_true rfl) dX8_keenMark_24 rfl rfl (fun v18 H locs hp hw => ?_)
      have hF := hF.trans (kb_some hp _)
      refine lv_aload_n hx hb dX8_keenMark_27 rfl (lv_at hl 1 rfl) ?_
      refine lv_bipush (v := 21) hx hb dX8_keenMark_28 (by decide) ?_
      have hs19 : g_X8_begins v18 21 ≠ none := fun q => hs (hF.trans (kb_n q _))
      refine km_cV (As := [.int 21]) (rest := []) (n := 1) (q := (RX8, TX8, 23)) (ci := 8) (t := 30) (i := 0) ⟨hx, hb, hml, hown, hts⟩ (d_X8_begins l E Z v18 21 hs19) gX8_keenMark_X8_begins rfl hV_X8_begins ⟨Nat.le_of_ble_eq_true rfl, Nat.le_of_ble_eq_true rfl⟩ hK hw (by decide) (by decide) rfl rfl rfl hl.1 rfl (Nat.le_of_ble_eq_true rfl) dX8_keenMark_30 rfl rfl (fun v21 H locs hp hw => ?_)
      have hF := hF.trans (kb_some hp _)
      refine lv_aload_n hx hb dX8_keenMark_33 rfl (lv_at hl 1 rfl) ?_
      refine lv_bipush (v := 20) hx hb dX8_keenMark_34 (by decide) ?_
      have hs22 : g_X8_begins v21 20 ≠ none := fun q => hs (hF.trans (kb_n q _))
      refine km_cV (As := [.int 20]) (rest := []) (n := 1) (q := (RX8, TX8, 23)) (ci := 8) (t := 30) (i := 0) ⟨hx, hb, hml, hown, hts⟩ (d_X8_begins l E Z v21 20 hs22) gX8_keenMark_X8_begins rfl hV_X8_begins ⟨Nat.le_of_ble_eq_true rfl, Nat.le_of_ble_eq_true rfl⟩ hK hw (by decide) (by decide) rfl rfl rfl hl.1 rfl (Nat.le_of_ble_eq_true rfl) dX8_keenMark_36 rfl rfl (fun v24 H locs hp hw => ?_)
      have hF := hF.trans (kb_some hp _)
      refine lv_iload_n hx hb dX8_keenMark_39 rfl (lv_at hl 2 rfl) ?_
      refine lv_aload_n hx hb dX8_keenMark_40 rfl (lv_at hl 1 rfl) ?_
      refine km_get (ci := 8) (C := RX8) (T := TX8) (N := 23) (t := 30) (i := 0) hx hb hts fi_X8_keenMark_X8 hown hK hw (by decide) (by decide) rfl rfl 13 (by decide) (hts (.fieldLink RX8 25 "WrongWordModel" "now" "[I") ow_X8_keenMark_25) rfl dX8_keenMark_41 ?_
      refine lv_bipush (v := 26) hx hb dX8_keenMark_44 (by decide) ?_
      refine lv_iconst (v := 3) hx hb dX8_keenMark_46 (by decide) ?_
      refine lv_iload_n hx hb dX8_keenMark_47 rfl (lv_at hl 2 rfl) ?_
      refine lv_imul hx hb dX8_keenMark_48 ?_
      refine lv_iadd hx hb dX8_keenMark_49 ?_
      refine lv_iconst (v := 2) hx hb dX8_keenMark_50 (by decide) ?_
      refine lv_iadd hx hb dX8_keenMark_51 ?_
      have hb25 : ¬ (((26 : Int32) + ((3 : Int32) * a1)) + 2 < 0 ∨ 65 ≤ Int32.toNatClampNeg (((26 : Int32) + ((3 : Int32) * a1)) + 2)) := fun q => hs (hF.trans (if_pos q))
      have hF := hF.trans (if_neg hb25)
      refine km_iald (t := 36) (i := 0) hx hb hK hw (by decide) (by decide) rfl hb25 dX8_keenMark_52 ?_
      refine lv_iadd hx hb dX8_keenMark_53 ?_
      refine lv_topi (fun x26 ex26 => ?_)
      have hF := hF.trans (kb_some (congrArg some ex26.symm) _)
      refine lv_istore_n (lv' := [(3, .int x26), (2, .int r2), (0, .ref (Z.1 30 0)), (1, .int a1)]) hx hb dX8_keenMark_54 rfl hl (by decide) rfl (fun ls hl => ?_)
      refine lv_iload_n hx hb dX8_keenMark_55 rfl (lv_at hl 1 rfl) ?_
      refine lv_iconst (v := 2) hx hb dX8_keenMark_56 (by decide) ?_
      refine lv_icmp_ne (tgt := 66) hx hb dX8_keenMark_57 (by decide) (fun c27 => ?_) (fun c27 => ?_)
      · skip
        have hF := hF.trans (if_neg c27)
        refine lv_iload_n hx hb dX8_keenMark_66 rfl (lv_at hl 1 rfl) ?_
        refine lv_iconst (v := 3) hx hb dX8_keenMark_67 (by decide) ?_
        refine lv_icmp_ne (tgt := 79) hx hb dX8_keenMark_68 (by decide) (fun c28 => ?_) (fun c28 => ?_)
        · skip
          have hF := hF.trans (if_neg c28)
          refine lv_iload_n hx hb dX8_keenMark_79 rfl (lv_at hl 0 rfl) ?_
          exact hret _ _ _ _ _ _ hw dX8_keenMark_80 hF
        · skip
          have hF := hF.trans (if_pos c28)
          refine lv_iload_n hx hb dX8_keenMark_71 rfl (lv_at hl 0 rfl) ?_
          refine lv_sipush (v := 1000) hx hb dX8_keenMark_72 (by decide) ?_
          refine lv_isub hx hb dX8_keenMark_75 ?_
          refine lv_goto (tgt := 80) hx hb dX8_keenMark_76 (by decide) ?_
          exact hret _ _ _ _ _ _ hw dX8_keenMark_80 hF
      · skip
        have hF := hF.trans (if_pos c27)
        refine lv_iconst (v := 2) hx hb dX8_keenMark_60 (by decide) ?_
        refine lv_iload_n hx hb dX8_keenMark_61 rfl (lv_at hl 0 rfl) ?_
        refine lv_imul hx hb dX8_keenMark_62 ?_
        refine lv_goto (tgt := 80) hx hb dX8_keenMark_63 (by decide) ?_
        exact hret _ _ _ _ _ _ hw dX8_keenMark_80 hF
    · skip
      have hF := hF.trans (if_pos c15)
      refine lv_bipush (v := 24) hx hb dX8_keenMark_17 (by decide) ?_
      refine lv_goto (tgt := 24) hx hb dX8_keenMark_19 (by decide) ?_
      have hs29 : g_X8_begins v 24 ≠ none := fun q => hs (hF.trans (kb_n q _))
      refine km_cV (As := [.int 24]) (rest := []) (n := 1) (q := (RX8, TX8, 23)) (ci := 8) (t := 30) (i := 0) ⟨hx, hb, hml, hown, hts⟩ (d_X8_begins l E Z v 24 hs29) gX8_keenMark_X8_begins rfl hV_X8_begins ⟨Nat.le_of_ble_eq_true rfl, Nat.le_of_ble_eq_true rfl⟩ hK hw (by decide) (by decide) rfl rfl rfl hl.1 rfl (Nat.le_of_ble_eq_true rfl) dX8_keenMark_24 rfl rfl (fun v31 H locs hp hw => ?_)
      have hF := hF.trans (kb_some hp _)
      refine lv_aload_n hx hb dX8_keenMark_27 rfl (lv_at hl 1 rfl) ?_
      refine lv_bipush (v := 21) hx hb dX8_keenMark_28 (by decide) ?_
      have hs32 : g_X8_begins v31 21 ≠ none := fun q => hs (hF.trans (kb_n q _))
      refine km_cV (As := [.int 21]) (rest := []) (n := 1) (q := (RX8, TX8, 23)) (ci := 8) (t := 30) (i := 0) ⟨hx, hb, hml, hown, hts⟩ (d_X8_begins l E Z v31 21 hs32) gX8_keenMark_X8_begins rfl hV_X8_begins ⟨Nat.le_of_ble_eq_true rfl, Nat.le_of_ble_eq_true rfl⟩ hK hw (by decide) (by decide) rfl rfl rfl hl.1 rfl (Nat.le_of_ble_eq_true rfl) dX8_keenMark_30 rfl rfl (fun v34 H locs hp hw => ?_)
      have hF := hF.trans (kb_some hp _)
      refine lv_aload_n hx hb dX8_keenMark_33 rfl (lv_at hl 1 rfl) ?_
      refine lv_bipush (v := 20) hx hb dX8_keenMark_34 (by decide) ?_
      have hs35 : g_X8_begins v34 20 ≠ none := fun q => hs (hF.trans (kb_n q _))
      refine km_cV (As := [.int 20]) (rest := []) (n := 1) (q := (RX8, TX8, 23)) (ci := 8) (t := 30) (i := 0) ⟨hx, hb, hml, hown, hts⟩ (d_X8_begins l E Z v34 20 hs35) gX8_keenMark_X8_begins rfl hV_X8_begins ⟨Nat.le_of_ble_eq_true rfl, Nat.le_of_ble_eq_true rfl⟩ hK hw (by decide) (by decide) rfl rfl rfl hl.1 rfl (Nat.le_of_ble_eq_true rfl) dX8_keenMark_36 rfl rfl (fun v37 H locs hp hw => ?_)
      have hF := hF.trans (kb_some hp _)
      refine lv_iload_n hx hb dX8_keenMark_39 rfl (lv_at hl 2 rfl) ?_
      refine lv_aload_n hx hb dX8_keenMark_40 rfl (lv_at hl 1 rfl) ?_
      refine km_get (ci := 8) (C := RX8) (T := TX8) (N := 23) (t := 30) (i := 0) hx hb hts fi_X8_keenMark_X8 hown hK hw (by decide) (by decide) rfl rfl 13 (by decide) (hts (.fieldLink RX8 25 "WrongWordModel" "now" "[I") ow_X8_keenMark_25) rfl dX8_keenMark_41 ?_
      refine lv_bipush (v := 26) hx hb dX8_keenMark_44 (by decide) ?_
      refine lv_iconst (v := 3) hx hb dX8_keenMark_46 (by decide) ?_
      refine lv_iload_n hx hb dX8_keenMark_47 rfl (lv_at hl 2 rfl) ?_
      refine lv_imul hx hb dX8_keenMark_48 ?_
      refine lv_iadd hx hb dX8_keenMark_49 ?_
      refine lv_iconst (v := 2) hx hb dX8_keenMark_50 (by decide) ?_
      refine lv_iadd hx hb dX8_keenMark_51 ?_
      have hb38 : ¬ (((26 : Int32) + ((3 : Int32) * a1)) + 2 < 0 ∨ 65 ≤ Int32.toNatClampNeg (((26 : Int32) + ((3 : Int32) * a1)) + 2)) := fun q => hs (hF.trans (if_pos q))
      have hF := hF.trans (if_neg hb38)
      refine km_iald (t := 36) (i := 0) hx hb hK hw (by decide) (by decide) rfl hb38 dX8_keenMark_52 ?_
      refine lv_iadd hx hb dX8_keenMark_53 ?_
      refine lv_topi (fun x39 ex39 => ?_)
      have hF := hF.trans (kb_some (congrArg some ex39.symm) _)
      refine lv_istore_n (lv' := [(3, .int x39), (2, .int r2), (0, .ref (Z.1 30 0)), (1, .int a1)]) hx hb dX8_keenMark_54 rfl hl (by decide) rfl (fun ls hl => ?_)
      refine lv_iload_n hx hb dX8_keenMark_55 rfl (lv_at hl 1 rfl) ?_
      refine lv_iconst (v := 2) hx hb dX8_keenMark_56 (by decide) ?_
      refine lv_icmp_ne (tgt := 66) hx hb dX8_keenMark_57 (by decide) (fun c40 => ?_) (fun c40 => ?_)
      · skip
        have hF := hF.trans (if_neg c40)
        refine lv_iload_n hx hb dX8_keenMark_66 rfl (lv_at hl 1 rfl) ?_
        refine lv_iconst (v := 3) hx hb dX8_keenMark_67 (by decide) ?_
        refine lv_icmp_ne (tgt := 79) hx hb dX8_keenMark_68 (by decide) (fun c41 => ?_) (fun c41 => ?_)
        · skip
          have hF := hF.trans (if_neg c41)
          refine lv_iload_n hx hb dX8_keenMark_79 rfl (lv_at hl 0 rfl) ?_
          exact hret _ _ _ _ _ _ hw dX8_keenMark_80 hF
        · skip
          have hF := hF.trans (if_pos c41)
          refine lv_iload_n hx hb dX8_keenMark_71 rfl (lv_at hl 0 rfl) ?_
          refine lv_sipush (v := 1000) hx hb dX8_keenMark_72 (by decide) ?_
          refine lv_isub hx hb dX8_keenMark_75 ?_
          refine lv_goto (tgt := 80) hx hb dX8_keenMark_76 (by decide) ?_
          exact hret _ _ _ _ _ _ hw dX8_keenMark_80 hF
      · skip
        have hF := hF.trans (if_pos c40)
        refine lv_iconst (v := 2) hx hb dX8_keenMark_60 (by decide) ?_
        refine lv_iload_n hx hb dX8_keenMark_61 rfl (lv_at hl 0 rfl) ?_
        refine lv_imul hx hb dX8_keenMark_62 ?_
        refine lv_goto (tgt := 80) hx hb dX8_keenMark_63 (by decide) ?_
        exact hret _ _ _ _ _ _ hw dX8_keenMark_80 hF
abbrev rmX8_deafSize : Room := { frames := 1, cells := 0, slots := 0, locals := 21 }
def g_X8_deafSize (v : Mm) (a1 : Int32) : Option (Int32 × Mm) := Option.bind (g_X8_kindIn v a1) (fun r2 => if r2 = 5 then (Option.bind (g_X8_begins v 14) (fun v18 => Option.bind (g_X8_begins v18 13) (fun v21 => Option.bind (g_X8_begins v21 10) (fun v24 => if ((26 : Int32) + ((3 : Int32) * a1)) + 1 < 0 ∨ 65 ≤ Int32.toNatClampNeg (((26 : Int32) + ((3 : Int32) * a1)) + 1) then none else (Option.bind (some ((v24 36 0 (Int32.toNatClampNeg (((26 : Int32) + ((3 : Int32) * a1)) + 1))) - 100)) (fun x26 => some ((2 : Int32) * x26, v24))))))) else (Option.bind (g_X8_begins v 13) (fun v8 => Option.bind (g_X8_begins v8 10) (fun v11 => if ((26 : Int32) + ((3 : Int32) * a1)) + 1 < 0 ∨ 65 ≤ Int32.toNatClampNeg (((26 : Int32) + ((3 : Int32) * a1)) + 1) then none else (Option.bind (some ((v11 36 0 (Int32.toNatClampNeg (((26 : Int32) + ((3 : Int32) * a1)) + 1))) - 100)) (fun x13 => some (x13, v11)))))))
set_option maxHeartbeats 4000000 in
set_option maxRecDepth 100000 in
theorem d_X8_deafSize (l : Launch) (E : kq_T) (Z : km_Z) (v : Mm) (a1 : Int32) (hs : g_X8_deafSize v a1 ≠ none) : km_I l E Z cntM yX8_deafSize wsX8_deafSize rmX8_deafSize [.ref (Z.1 30 0), .int a1] v (fun r v1 => g_X8_deafSize v a1 = some (r, v1)) := by
  refine km_goI (cc := cX8_deafSize) (maxL := 4) (by decide) rfl (Nat.le_of_ble_eq_true rfl) rfl rfl rfl ?_
  intro p e s m below meth c A ls Q C hK hw hl hret
  obtain ⟨hx, hb, hml, hown, hts, -, -, -⟩ := C
  have hown : s.vm.findClass RX8 = some m.cls := hown
  have hl : lv_has ls 4 [(0, .ref (Z.1 30 0)), (1, .int a1)] := hl
  have hF := g_X8_deafSize.eq_1 v a1
  refine lv_aload_n hx hb dX8_deafSize_0 rfl (lv_at hl 0 rfl) ?_
  refine lv_iload_n hx hb dX8_deafSize_1 rfl (lv_at hl 1 rfl) ?_
  have hs1 : g_X8_kindIn v a1 ≠ none := fun q => hs (hF.trans (kb_n q _))
  refine km_cI (As := [.int a1]) (rest := []) (n := 1) (q := (RX8, TX8, 23)) (ci := 8) (t := 30) (i := 0) ⟨hx, hb, hml, hown, hts⟩ (d_X8_kindIn l E Z v a1 hs1) gX8_deafSize_X8_kindIn rfl hV_X8_kindIn ⟨Nat.le_of_ble_eq_true rfl, Nat.le_of_ble_eq_true rfl⟩ hK hw (by decide) (by decide) rfl rfl rfl hl.1 rfl (Nat.le_of_ble_eq_true rfl) dX8_deafSize_2 rfl rfl (fun r2 v3 H locs hp hw => ?_)
  obtain ⟨hp, rfl⟩ := hp
  have hF := hF.trans (kb_some hp _)
  refine lv_iconst (v := 5) hx hb dX8_deafSize_5 (by decide) ?_
  refine lv_icmp_ne (tgt := 13) hx hb dX8_deafSize_6 (by decide) (fun c4 => ?_) (fun c4 => ?_)
  · skip
    have hF := hF.trans (if_neg c4)
    refine lv_iconst (v := 0) hx hb dX8_deafSize_13 (by decide) ?_
    refine lv_istore_n (lv' := [(2, .int 0), (0, .ref (Z.1 30 0)), (1, .int a1)]) hx hb dX8_deafSize_14 rfl hl (by decide) rfl (fun ls hl => ?_)
    refine lv_iload_n hx hb dX8_deafSize_15 rfl (lv_at hl 0 rfl) ?_
    refine lv_if_eq (tgt := 25) hx hb dX8_deafSize_16 (by decide) (fun c5 => ?_) (fun c5 => ?_)
    rotate_left
    · exact absurd (by decide) c5
    refine lv_aload_n hx hb dX8_deafSize_25 rfl (lv_at hl 1 rfl) ?_
    refine lv_bipush (v := 13) hx hb dX8_deafSize_26 (by decide) ?_
    have hs6 : g_X8_begins v 13 ≠ none := fun q => hs (hF.trans (kb_n q _))
    refine km_cV (As := [.int 13]) (rest := []) (n := 1) (q := (RX8, TX8, 23)) (ci := 8) (t := 30) (i := 0) ⟨hx, hb, hml, hown, hts⟩ (d_X8_begins l E Z v 13 hs6) gX8_deafSize_X8_begins rfl hV_X8_begins ⟨Nat.le_of_ble_eq_true rfl, Nat.le_of_ble_eq_true rfl⟩ hK hw (by decide) (by decide) rfl rfl rfl hl.1 rfl (Nat.le_of_ble_eq_true rfl) dX8_deafSize_28 rfl rfl (fun v8 H locs hp hw => ?_)
    have hF := hF.trans (kb_some hp _)
    refine lv_aload_n hx hb dX8_deafSize_31 rfl (lv_at hl 1 rfl) ?_
    refine lv_bipush (v := 10) hx hb dX8_deafSize_32 (by decide) ?_
    have hs9 : g_X8_begins v8 10 ≠ none := fun q => hs (hF.trans (kb_n q _))
    refine km_cV (As := [.int 10]) (rest := []) (n := 1) (q := (RX8, TX8, 23)) (ci := 8) (t := 30) (i := 0) ⟨hx, hb, hml, hown, hts⟩ (d_X8_begins l E Z v8 10 hs9) gX8_deafSize_X8_begins rfl hV_X8_begins ⟨Nat.le_of_ble_eq_true rfl, Nat.le_of_ble_eq_true rfl⟩ hK hw (by decide) (by decide) rfl rfl rfl hl.1 rfl (Nat.le_of_ble_eq_true rfl) dX8_deafSize_34 rfl rfl (fun v11 H locs hp hw => ?_)
    have hF := hF.trans (kb_some hp _)
    refine lv_aload_n hx hb dX8_deafSize_37 rfl (lv_at hl 1 rfl) ?_
    refine km_get (ci := 8) (C := RX8) (T := TX8) (N := 23) (t := 30) (i := 0) hx hb hts fi_X8_deafSize_X8 hown hK hw (by decide) (by decide) rfl rfl 13 (by decide) (hts (.fieldLink RX8 25 "WrongWordModel" "now" "[I") ow_X8_deafSize_25) rfl dX8_deafSize_38 ?_
    refine lv_bipush (v := 26) hx hb dX8_deafSize_41 (by decide) ?_
    refine lv_iconst (v := 3) hx hb dX8_deafSize_43 (by decide) ?_
    refine lv_iload_n hx hb dX8_deafSize_44 rfl (lv_at hl 2 rfl) ?_
    refine lv_imul hx hb dX8_deafSize_45 ?_
    refine lv_iadd hx hb dX8_deafSize_46 ?_
    refine lv_iconst (v := 1) hx hb dX8_deafSize_47 (by decide) ?_
    refine lv_iadd hx hb dX8_deafSize_48 ?_
    have hb12 : ¬ (((26 : Int32) + ((3 : Int32) * a1)) + 1 < 0 ∨ 65 ≤ Int32.toNatClampNeg (((26 : Int32) + ((3 : Int32) * a1)) + 1)) := fun q => hs (hF.trans (if_pos q))
    have hF := hF.trans (if_neg hb12)
    refine km_iald (t := 36) (i := 0) hx hb hK hw (by decide) (by decide) rfl hb12 dX8_deafSize_49 ?_
    refine lv_bipush (v := 100) hx hb dX8_deafSize_50 (by decide) ?_
    refine lv_isub hx hb dX8_deafSize_52 ?_
    refine lv_topi (fun x13 ex13 => ?_)
    have hF := hF.trans (kb_some (congrArg some ex13.symm) _)
    refine lv_istore_n (lv' := [(3, .int x13), (2, .int 0), (0, .ref (Z.1 30 0)), (1, .int a1)]) hx hb dX8_deafSize_53 rfl hl (by decide) rfl (fun ls hl => ?_)
    refine lv_iload_n hx hb dX8_deafSize_54 rfl (lv_at hl 1 rfl) ?_
    refine lv_if_eq (tgt := 64) hx hb dX8_deafSize_55 (by decide) (fun c14 => ?_) (fun c14 => ?_)
    rotate_left
    · exact absurd (by decide) c14
    refine lv_iload_n hx hb dX8_deafSize_64 rfl (lv_at hl 0 rfl) ?_
    exact hret _ _ _ _ _ _ hw dX8_deafSize_65 hF
  · skip
    have hF := hF.trans (if_pos c4)
    refine lv_iconst (v := 1) hx hb dX8_deafSize_9 (by decide) ?_
    refine lv_goto (tgt := 14) hx hb dX8_deafSize_10 (by decide) ?_
    refine lv_istore_n (lv' := [(2, .int 1), (0, .ref (Z.1 30 0)), (1, .int a1)]) hx hb dX8_deafSize_14 rfl hl (by decide) rfl (fun ls hl => ?_)
    refine lv_iload_n hx hb dX8_deafSize_15 rfl (lv_at hl 0 rfl) ?_
    refine lv_if_eq (tgt := 25) hx hb dX8_deafSize_16 (by decide) (fun c15 => ?_) (fun c15 => ?_)
    · exact absurd c15 (by decide)
    refine lv_aload_n hx hb dX8_deafSize_19 rfl (lv_at hl 1 rfl) ?_
    refine lv_bipush (v := 14) hx hb dX8_deafSize_20 (by decide) ?_
    have hs16 : g_X8_begins v 14 ≠ none := fun q => hs (hF.trans (kb_n q _))
    refine km_cV (As := [.int 14]) (rest := []) (n := 1) (q := (RX8, TX8, 23)) (ci := 8) (t := 30) (i := 0) ⟨hx, hb, hml, hown, hts⟩ (d_X8_begins l E Z v 14 hs16) gX8_deafSize_X8_begins rfl hV_X8_begins ⟨Nat.le_of_ble_eq_true rfl, Nat.le_of_ble_eq_true rfl⟩ hK hw (by decide) (by decide) rfl rfl rfl hl.1 rfl (Nat.le_of_ble_eq_true rfl) dX8_deafSize_22 rfl rfl (fun v18 H locs hp hw => ?_)
    have hF := hF.trans (kb_some hp _)
    refine lv_aload_n hx hb dX8_deafSize_25 rfl (lv_at hl 1 rfl) ?_
    refine lv_bipush (v := 13) hx hb dX8_deafSize_26 (by decide) ?_
    have hs19 : g_X8_begins v18 13 ≠ none := fun q => hs (hF.trans (kb_n q _))
    refine km_cV (As := [.int 13]) (rest := []) (n := 1) (q := (RX8, TX8, 23)) (ci := 8) (t := 30) (i := 0) ⟨hx, hb, hml, hown, hts⟩ (d_X8_begins l E Z v18 13 hs19) gX8_deafSize_X8_begins rfl hV_X8_begins ⟨Nat.le_of_ble_eq_true rfl, Nat.le_of_ble_eq_true rfl⟩ hK hw (by decide) (by decide) rfl rfl rfl hl.1 rfl (Nat.le_of_ble_eq_true rfl) dX8_deafSize_28 rfl rfl (fun v21 H locs hp hw => ?_)
    have hF := hF.trans (kb_some hp _)
    refine lv_aload_n hx hb dX8_deafSize_31 rfl (lv_at hl 1 rfl) ?_
    refine lv_bipush (v := 10) hx hb dX8_deafSize_32 (by decide) ?_
    have hs22 : g_X8_begins v21 10 ≠ none := fun q => hs (hF.trans (kb_n q _))
    refine km_cV (As := [.int 10]) (rest := []) (n := 1) (q := (RX8, TX8, 23)) (ci := 8) (t := 30) (i := 0) ⟨hx, hb, hml, hown, hts⟩ (d_X8_begins l E Z v21 10 hs22) gX8_deafSize_X8_begins rfl hV_X8_begins ⟨Nat.le_of_ble_eq_true rfl, Nat.le_of_ble_eq_true rfl⟩ hK hw (by decide) (by decide) rfl rfl rfl hl.1 rfl (Nat.le_of_ble_eq_true rfl) dX8_deafSize_34 rfl rfl (fun v24 H locs hp hw => ?_)
    have hF := hF.trans (kb_some hp _)
    refine lv_aload_n hx hb dX8_deafSize_37 rfl (lv_at hl 1 rfl) ?_
    refine km_get (ci := 8) (C := RX8) (T := TX8) (N := 23) (t := 30) (i := 0) hx hb hts fi_X8_deafSize_X8 hown hK hw (by decide) (by decide) rfl rfl 13 (by decide) (hts (.fieldLink RX8 25 "WrongWordModel" "now" "[I") ow_X8_deafSize_25) rfl dX8_deafSize_38 ?_
    refine lv_bipush (v := 26) hx hb dX8_deafSize_41 (by decide) ?_
    refine lv_iconst (v := 3) hx hb dX8_deafSize_43 (by decide) ?_
    refine lv_iload_n hx hb dX8_deafSize_44 rfl (lv_at hl 2 rfl) ?_
    refine lv_imul hx hb dX8_deafSize_45 ?_
    refine lv_iadd hx hb dX8_deafSize_46 ?_
    refine lv_iconst (v := 1) hx hb dX8_deafSize_47 (by decide) ?_
    refine lv_iadd hx hb dX8_deafSize_48 ?_
    have hb25 : ¬ (((26 : Int32) + ((3 : Int32) * a1)) + 1 < 0 ∨ 65 ≤ Int32.toNatClampNeg (((26 : Int32) + ((3 : Int32) * a1)) + 1)) := fun q => hs (hF.trans (if_pos q))
    have hF := hF.trans (if_neg hb25)
    refine km_iald (t := 36) (i := 0) hx hb hK hw (by decide) (by decide) rfl hb25 dX8_deafSize_49 ?_
    refine lv_bipush (v := 100) hx hb dX8_deafSize_50 (by decide) ?_
    refine lv_isub hx hb dX8_deafSize_52 ?_
    refine lv_topi (fun x26 ex26 => ?_)
    have hF := hF.trans (kb_some (congrArg some ex26.symm) _)
    refine lv_istore_n (lv' := [(3, .int x26), (2, .int 1), (0, .ref (Z.1 30 0)), (1, .int a1)]) hx hb dX8_deafSize_53 rfl hl (by decide) rfl (fun ls hl => ?_)
    refine lv_iload_n hx hb dX8_deafSize_54 rfl (lv_at hl 1 rfl) ?_
    refine lv_if_eq (tgt := 64) hx hb dX8_deafSize_55 (by decide) (fun c27 => ?_) (fun c27 => ?_)
    · exact absurd c27 (by decide)
    refine lv_iconst (v := 2) hx hb dX8_deafSize_58 (by decide) ?_
    refine lv_iload_n hx hb dX8_deafSize_59 rfl (lv_at hl 0 rfl) ?_
    refine lv_imul hx hb dX8_deafSize_60 ?_
    refine lv_goto (tgt := 65) hx hb dX8_deafSize_61 (by decide) ?_
    exact hret _ _ _ _ _ _ hw dX8_deafSize_65 hF
abbrev rmX8_keenSize : Room := { frames := 2, cells := 0, slots := 0, locals := 44 }
def g_X8_keenSize (v : Mm) (a1 : Int32) : Option (Int32 × Mm) := Option.bind (g_X8_kindIn v a1) (fun r2 => if r2 = 2 then (Option.bind (g_X8_begins v 12) (fun v21 => Option.bind (g_X8_begins v21 11) (fun v24 => Option.bind (g_X8_begins v24 10) (fun v27 => if ((26 : Int32) + ((3 : Int32) * a1)) + 1 < 0 ∨ 65 ≤ Int32.toNatClampNeg (((26 : Int32) + ((3 : Int32) * a1)) + 1) then none else (kb2 (g_X8_keenMark v27 a1) (fun r30 v31 => Option.bind (some ((v27 36 0 (Int32.toNatClampNeg (((26 : Int32) + ((3 : Int32) * a1)) + 1))) + r30)) (fun x32 => some (-x32, v31)))))))) else (Option.bind (g_X8_begins v 11) (fun v8 => Option.bind (g_X8_begins v8 10) (fun v11 => if ((26 : Int32) + ((3 : Int32) * a1)) + 1 < 0 ∨ 65 ≤ Int32.toNatClampNeg (((26 : Int32) + ((3 : Int32) * a1)) + 1) then none else (kb2 (g_X8_keenMark v11 a1) (fun r14 v15 => Option.bind (some ((v11 36 0 (Int32.toNatClampNeg (((26 : Int32) + ((3 : Int32) * a1)) + 1))) + r14)) (fun x16 => some (x16, v15))))))))
set_option maxHeartbeats 4000000 in
set_option maxRecDepth 100000 in
theorem d_X8_keenSize (l : Launch) (E : kq_T) (Z : km_Z) (v : Mm) (a1 : Int32) (hs : g_X8_keenSize v a1 ≠ none) : km_I l E Z cntM yX8_keenSize wsX8_keenSize rmX8_keenSize [.ref (Z.1 30 0), .int a1] v (fun r v1 => g_X8_keenSize v a1 = some (r, v1)) := by
  refine km_goI (cc := cX8_keenSize) (maxL := 4) (by decide) rfl (Nat.le_of_ble_eq_true rfl) rfl rfl rfl ?_
  intro p e s m below meth c A ls Q C hK hw hl hret
  obtain ⟨hx, hb, hml, hown, hts, -, -, -⟩ := C
  have hown : s.vm.findClass RX8 = some m.cls := hown
  have hl : lv_has ls 4 [(0, .ref (Z.1 30 0)), (1, .int a1)] := hl
  have hF := g_X8_keenSize.eq_1 v a1
  refine lv_aload_n hx hb dX8_keenSize_0 rfl (lv_at hl 0 rfl) ?_
  refine lv_iload_n hx hb dX8_keenSize_1 rfl (lv_at hl 1 rfl) ?_
  have hs1 : g_X8_kindIn v a1 ≠ none := fun q => hs (hF.trans (kb_n q _))
  refine km_cI (As := [.int a1]) (rest := []) (n := 1) (q := (RX8, TX8, 23)) (ci := 8) (t := 30) (i := 0) ⟨hx, hb, hml, hown, hts⟩ (d_X8_kindIn l E Z v a1 hs1) gX8_keenSize_X8_kindIn rfl hV_X8_kindIn ⟨Nat.le_of_ble_eq_true rfl, Nat.le_of_ble_eq_true rfl⟩ hK hw (by decide) (by decide) rfl rfl rfl hl.1 rfl (Nat.le_of_ble_eq_true rfl) dX8_keenSize_2 rfl rfl (fun r2 v3 H locs hp hw => ?_)
  obtain ⟨hp, rfl⟩ := hp
  have hF := hF.trans (kb_some hp _)
  refine lv_iconst (v := 2) hx hb dX8_keenSize_5 (by decide) ?_
  refine lv_icmp_ne (tgt := 13) hx hb dX8_keenSize_6 (by decide) (fun c4 => ?_) (fun c4 => ?_)
  · skip
    have hF := hF.trans (if_neg c4)
    refine lv_iconst (v := 0) hx hb dX8_keenSize_13 (by decide) ?_
    refine lv_istore_n (lv' := [(2, .int 0), (0, .ref (Z.1 30 0)), (1, .int a1)]) hx hb dX8_keenSize_14 rfl hl (by decide) rfl (fun ls hl => ?_)
    refine lv_iload_n hx hb dX8_keenSize_15 rfl (lv_at hl 0 rfl) ?_
    refine lv_if_eq (tgt := 25) hx hb dX8_keenSize_16 (by decide) (fun c5 => ?_) (fun c5 => ?_)
    rotate_left
    · exact absurd (by decide) c5
    refine lv_aload_n hx hb dX8_keenSize_25 rfl (lv_at hl 1 rfl) ?_
    refine lv_bipush (v := 11) hx hb dX8_keenSize_26 (by decide) ?_
    have hs6 : g_X8_begins v 11 ≠ none := fun q => hs (hF.trans (kb_n q _))
    refine km_cV (As := [.int 11]) (rest := []) (n := 1) (q := (RX8, TX8, 23)) (ci := 8) (t := 30) (i := 0) ⟨hx, hb, hml, hown, hts⟩ (d_X8_begins l E Z v 11 hs6) gX8_keenSize_X8_begins rfl hV_X8_begins ⟨Nat.le_of_ble_eq_true rfl, Nat.le_of_ble_eq_true rfl⟩ hK hw (by decide) (by decide) rfl rfl rfl hl.1 rfl (Nat.le_of_ble_eq_true rfl) dX8_keenSize_28 rfl rfl (fun v8 H locs hp hw => ?_)
    have hF := hF.trans (kb_some hp _)
    refine lv_aload_n hx hb dX8_keenSize_31 rfl (lv_at hl 1 rfl) ?_
    refine lv_bipush (v := 10) hx hb dX8_keenSize_32 (by decide) ?_
    have hs9 : g_X8_begins v8 10 ≠ none := fun q => hs (hF.trans (kb_n q _))
    refine km_cV (As := [.int 10]) (rest := []) (n := 1) (q := (RX8, TX8, 23)) (ci := 8) (t := 30) (i := 0) ⟨hx, hb, hml, hown, hts⟩ (d_X8_begins l E Z v8 10 hs9) gX8_keenSize_X8_begins rfl hV_X8_begins ⟨Nat.le_of_ble_eq_true rfl, Nat.le_of_ble_eq_true rfl⟩ hK hw (by decide) (by decide) rfl rfl rfl hl.1 rfl (Nat.le_of_ble_eq_true rfl) dX8_keenSize_34 rfl rfl (fun v11 H locs hp hw => ?_)
    have hF := hF.trans (kb_some hp _)
    refine lv_aload_n hx hb dX8_keenSize_37 rfl (lv_at hl 1 rfl) ?_
    refine km_get (ci := 8) (C := RX8) (T := TX8) (N := 23) (t := 30) (i := 0) hx hb hts fi_X8_keenSize_X8 hown hK hw (by decide) (by decide) rfl rfl 13 (by decide) (hts (.fieldLink RX8 25 "WrongWordModel" "now" "[I") ow_X8_keenSize_25) rfl dX8_keenSize_38 ?_
    refine lv_bipush (v := 26) hx hb dX8_keenSize_41 (by decide) ?_
    refine lv_iconst (v := 3) hx hb dX8_keenSize_43 (by decide) ?_
    refine lv_iload_n hx hb dX8_keenSize_44 rfl (lv_at hl 2 rfl) ?_
    refine lv_imul hx hb dX8_keenSize_45 ?_
    refine lv_iadd hx hb dX8_keenSize_46 ?_
    refine lv_iconst (v := 1) hx hb dX8_keenSize_47 (by decide) ?_
    refine lv_iadd hx hb dX8_keenSize_48 ?_
    have hb12 : ¬ (((26 : Int32) + ((3 : Int32) * a1)) + 1 < 0 ∨ 65 ≤ Int32.toNatClampNeg (((26 : Int32) + ((3 : Int32) * a1)) + 1)) := fun q => hs (hF.trans (if_pos q))
    have hF := hF.trans (if_neg hb12)
    refine km_iald (t := 36) (i := 0) hx hb hK hw (by decide) (by decide) rfl hb12 dX8_keenSize_49 ?_
    refine lv_aload_n hx hb dX8_keenSize_50 rfl (lv_at hl 1 rfl) ?_
    refine lv_iload_n hx hb dX8_keenSize_51 rfl (lv_at hl 2 rfl) ?_
    have hs13 : g_X8_keenMark v11 a1 ≠ none := fun q => hs (hF.trans (kb2_n q _))
    refine km_cI (As := [.int a1]) (rest := [.int (v11 36 0 (Int32.toNatClampNeg (((26 : Int32) + ((3 : Int32) * a1)) + 1)))]) (n := 1) (q := (RX8, TX8, 23)) (ci := 8) (t := 30) (i := 0) ⟨hx, hb, hml, hown, hts⟩ (d_X8_keenMark l E Z v11 a1 hs13) gX8_keenSize_X8_keenMark rfl hV_X8_keenMark ⟨Nat.le_of_ble_eq_true rfl, Nat.le_of_ble_eq_true rfl⟩ hK hw (by decide) (by decide) rfl rfl rfl hl.1 rfl (Nat.le_of_ble_eq_true rfl) dX8_keenSize_52 rfl rfl (fun r14 v15 H locs hp hw => ?_)
    have hF := hF.trans (kb2_some hp _)
    refine lv_iadd hx hb dX8_keenSize_55 ?_
    refine lv_topi (fun x16 ex16 => ?_)
    have hF := hF.trans (kb_some (congrArg some ex16.symm) _)
    refine lv_istore_n (lv' := [(3, .int x16), (2, .int 0), (0, .ref (Z.1 30 0)), (1, .int a1)]) hx hb dX8_keenSize_56 rfl hl (by decide) rfl (fun ls hl => ?_)
    refine lv_iload_n hx hb dX8_keenSize_57 rfl (lv_at hl 1 rfl) ?_
    refine lv_if_eq (tgt := 66) hx hb dX8_keenSize_58 (by decide) (fun c17 => ?_) (fun c17 => ?_)
    rotate_left
    · exact absurd (by decide) c17
    refine lv_iload_n hx hb dX8_keenSize_66 rfl (lv_at hl 0 rfl) ?_
    exact hret _ _ _ _ _ _ hw dX8_keenSize_67 hF
  · skip
    have hF := hF.trans (if_pos c4)
    refine lv_iconst (v := 1) hx hb dX8_keenSize_9 (by decide) ?_
    refine lv_goto (tgt := 14) hx hb dX8_keenSize_10 (by decide) ?_
    refine lv_istore_n (lv' := [(2, .int 1), (0, .ref (Z.1 30 0)), (1, .int a1)]) hx hb dX8_keenSize_14 rfl hl (by decide) rfl (fun ls hl => ?_)
    refine lv_iload_n hx hb dX8_keenSize_15 rfl (lv_at hl 0 rfl) ?_
    refine lv_if_eq (tgt := 25) hx hb dX8_keenSize_16 (by decide) (fun c18 => ?_) (fun c18 => ?_)
    · exact absurd c18 (by decide)
    refine lv_aload_n hx hb dX8_keenSize_19 rfl (lv_at hl 1 rfl) ?_
    refine lv_bipush (v := 12) hx hb dX8_keenSize_20 (by decide) ?_
    have hs19 : g_X8_begins v 12 ≠ none := fun q => hs (hF.trans (kb_n q _))
    refine km_cV (As := [.int 12]) (rest := []) (n := 1) (q := (RX8, TX8, 23)) (ci := 8) (t := 30) (i := 0) ⟨hx, hb, hml, hown, hts⟩ (d_X8_begins l E Z v 12 hs19) gX8_keenSize_X8_begins rfl hV_X8_begins ⟨Nat.le_of_ble_eq_true rfl, Nat.le_of_ble_eq_true rfl⟩ hK hw (by decide) (by decide) rfl rfl rfl hl.1 rfl (Nat.le_of_ble_eq_true rfl) dX8_keenSize_22 rfl rfl (fun v21 H locs hp hw => ?_)
    have hF := hF.trans (kb_some hp _)
    refine lv_aload_n hx hb dX8_keenSize_25 rfl (lv_at hl 1 rfl) ?_
    refine lv_bipush (v := 11) hx hb dX8_keenSize_26 (by decide) ?_
    have hs22 : g_X8_begins v21 11 ≠ none := fun q => hs (hF.trans (kb_n q _))
    refine km_cV (As := [.int 11]) (rest := []) (n := 1) (q := (RX8, TX8, 23)) (ci := 8) (t := 30) (i := 0) ⟨hx, hb, hml, hown, hts⟩ (d_X8_begins l E Z v21 11 hs22) gX8_keenSize_X8_begins rfl hV_X8_begins ⟨Nat.le_of_ble_eq_true rfl, Nat.le_of_ble_eq_true rfl⟩ hK hw (by decide) (by decide) rfl rfl rfl hl.1 rfl (Nat.le_of_ble_eq_true rfl) dX8_keenSize_28 rfl rfl (fun v24 H locs hp hw => ?_)
    have hF := hF.trans (kb_some hp _)
    refine lv_aload_n hx hb dX8_keenSize_31 rfl (lv_at hl 1 rfl) ?_
    refine lv_bipush (v := 10) hx hb dX8_keenSize_32 (by decide) ?_
    have hs25 : g_X8_begins v24 10 ≠ none := fun q => hs (hF.trans (kb_n q _))
    refine km_cV (As := [.int 10]) (rest := []) (n := 1) (q := (RX8, TX8, 23)) (ci := 8) (t := 30) (i := 0) ⟨hx, hb, hml, hown, hts⟩ (d_X8_begins l E Z v24 10 hs25) gX8_keenSize_X8_begins rfl hV_X8_begins ⟨Nat.le_of_ble_eq_true rfl, Nat.le_of_ble_eq_true rfl⟩ hK hw (by decide) (by decide) rfl rfl rfl hl.1 rfl (Nat.le_of_ble_eq_true rfl) dX8_keenSize_34 rfl rfl (fun v27 H locs hp hw => ?_)
    have hF := hF.trans (kb_some hp _)
    refine lv_aload_n hx hb dX8_keenSize_37 rfl (lv_at hl 1 rfl) ?_
    refine km_get (ci := 8) (C := RX8) (T := TX8) (N := 23) (t := 30) (i := 0) hx hb hts fi_X8_keenSize_X8 hown hK hw (by decide) (by decide) rfl rfl 13 (by decide) (hts (.fieldLink RX8 25 "WrongWordModel" "now" "[I") ow_X8_keenSize_25) rfl dX8_keenSize_38 ?_
    refine lv_bipush (v := 26) hx hb dX8_keenSize_41 (by decide) ?_
    refine lv_iconst (v := 3) hx hb dX8_keenSize_43 (by decide) ?_
    refine lv_iload_n hx hb dX8_keenSize_44 rfl (lv_at hl 2 rfl) ?_
    refine lv_imul hx hb dX8_keenSize_45 ?_
    refine lv_iadd hx hb dX8_keenSize_46 ?_
    refine lv_iconst (v := 1) hx hb dX8_keenSize_47 (by decide) ?_
    refine lv_iadd hx hb dX8_keenSize_48 ?_
    have hb28 : ¬ (((26 : Int32) + ((3 : Int32) * a1)) + 1 < 0 ∨ 65 ≤ Int32.toNatClampNeg (((26 : Int32) + ((3 : Int32) * a1)) + 1)) := fun q => hs (hF.trans (if_pos q))
    have hF := hF.trans (if_neg hb28)
    refine km_iald (t := 36) (i := 0) hx hb hK hw (by decide) (by decide) rfl hb28 dX8_keenSize_49 ?_
    refine lv_aload_n hx hb dX8_keenSize_50 rfl (lv_at hl 1 rfl) ?_
    refine lv_iload_n hx hb dX8_keenSize_51 rfl (lv_at hl 2 rfl) ?_
    have hs29 : g_X8_keenMark v27 a1 ≠ none := fun q => hs (hF.trans (kb2_n q _))
    refine km_cI (As := [.int a1]) (rest := [.int (v27 36 0 (Int32.toNatClampNeg (((26 : Int32) + ((3 : Int32) * a1)) + 1)))]) (n := 1) (q := (RX8, TX8, 23)) (ci := 8) (t := 30) (i := 0) ⟨hx, hb, hml, hown, hts⟩ (d_X8_keenMark l E Z v27 a1 hs29) gX8_keenSize_X8_keenMark rfl hV_X8_keenMark ⟨Nat.le_of_ble_eq_true rfl, Nat.le_of_ble_eq_true rfl⟩ hK hw (by decide) (by decide) rfl rfl rfl hl.1 rfl (Nat.le_of_ble_eq_true rfl) dX8_keenSize_52 rfl rfl (fun r30 v31 H locs hp hw => ?_)
    have hF := hF.trans (kb2_some hp _)
    refine lv_iadd hx hb dX8_keenSize_55 ?_
    refine lv_topi (fun x32 ex32 => ?_)
    have hF := hF.trans (kb_some (congrArg some ex32.symm) _)
    refine lv_istore_n (lv' := [(3, .int x32), (2, .int 1), (0, .ref (Z.1 30 0)), (1, .int a1)]) hx hb dX8_keenSize_56 rfl hl (by decide) rfl (fun ls hl => ?_)
    refine lv_iload_n hx hb dX8_keenSize_57 rfl (lv_at hl 1 rfl) ?_
    refine lv_if_eq (tgt := 66) hx hb dX8_keenSize_58 (by decide) (fun c33 => ?_) (fun c33 => ?_)
    · exact absurd c33 (by decide)
    refine lv_iload_n hx hb dX8_keenSize_61 rfl (lv_at hl 0 rfl) ?_
    refine lv_ineg hx hb dX8_keenSize_62 ?_
    refine lv_goto (tgt := 67) hx hb dX8_keenSize_63 (by decide) ?_
    exact hret _ _ _ _ _ _ hw dX8_keenSize_67 hF
abbrev rmX8_deafMark : Room := { frames := 2, cells := 0, slots := 0, locals := 44 }
def g_X8_deafMark (v : Mm) (a1 : Int32) : Option (Int32 × Mm) := Option.bind (g_X8_begins v 23) (fun v3 => Option.bind (g_X8_begins v3 20) (fun v6 => kb2 (g_X8_deafSize v6 a1) (fun r8 v9 => some (a1 - r8, v9))))
set_option maxHeartbeats 4000000 in
set_option maxRecDepth 100000 in
theorem d_X8_deafMark (l : Launch) (E : kq_T) (Z : km_Z) (v : Mm) (a1 : Int32) (hs : g_X8_deafMark v a1 ≠ none) : km_I l E Z cntM yX8_deafMark wsX8_deafMark rmX8_deafMark [.ref (Z.1 30 0), .int a1] v (fun r v1 => g_X8_deafMark v a1 = some (r, v1)) := by
  refine km_goI (cc := cX8_deafMark) (maxL := 2) (by decide) rfl (Nat.le_of_ble_eq_true rfl) rfl rfl rfl ?_
  intro p e s m below meth c A ls Q C hK hw hl hret
  obtain ⟨hx, hb, hml, hown, hts, -, -, -⟩ := C
  have hown : s.vm.findClass RX8 = some m.cls := hown
  have hl : lv_has ls 2 [(0, .ref (Z.1 30 0)), (1, .int a1)] := hl
  have hF := g_X8_deafMark.eq_1 v a1
  refine lv_aload_n hx hb dX8_deafMark_0 rfl (lv_at hl 0 rfl) ?_
  refine lv_bipush (v := 23) hx hb dX8_deafMark_1 (by decide) ?_
  have hs1 : g_X8_begins v 23 ≠ none := fun q => hs (hF.trans (kb_n q _))
  refine km_cV (As := [.int 23]) (rest := []) (n := 1) (q := (RX8, TX8, 23)) (ci := 8) (t := 30) (i := 0) ⟨hx, hb, hml, hown, hts⟩ (d_X8_begins l E Z v 23 hs1) gX8_deafMark_X8_begins rfl hV_X8_begins ⟨Nat.le_of_ble_eq_true rfl, Nat.le_of_ble_eq_true rfl⟩ hK hw (by decide) (by decide) rfl rfl rfl hl.1 rfl (Nat.le_of_ble_eq_true rfl) dX8_deafMark_3 rfl rfl (fun v3 H locs hp hw => ?_)
  have hF := hF.trans (kb_some hp _)
  refine lv_aload_n hx hb dX8_deafMark_6 rfl (lv_at hl 0 rfl) ?_
  refine lv_bipush (v := 20) hx hb dX8_deafMark_7 (by decide) ?_
  have hs4 : g_X8_begins v3 20 ≠ none := fun q => hs (hF.trans (kb_n q _))
  refine km_cV (As := [.int 20]) (rest := []) (n := 1) (q := (RX8, TX8, 23)) (ci := 8) (t := 30) (i := 0) ⟨hx, hb, hml, hown, hts⟩ (d_X8_begins l E Z v3 20 hs4) gX8_deafMark_X8_begins rfl hV_X8_begins ⟨Nat.le_of_ble_eq_true rfl, Nat.le_of_ble_eq_true rfl⟩ hK hw (by decide) (by decide) rfl rfl rfl hl.1 rfl (Nat.le_of_ble_eq_true rfl) dX8_deafMark_9 rfl rfl (fun v6 H locs hp hw => ?_)
  have hF := hF.trans (kb_some hp _)
  refine lv_iload_n hx hb dX8_deafMark_12 rfl (lv_at hl 1 rfl) ?_
  refine lv_aload_n hx hb dX8_deafMark_13 rfl (lv_at hl 0 rfl) ?_
  refine lv_iload_n hx hb dX8_deafMark_14 rfl (lv_at hl 1 rfl) ?_
  have hs7 : g_X8_deafSize v6 a1 ≠ none := fun q => hs (hF.trans (kb2_n q _))
  refine km_cI (As := [.int a1]) (rest := [.int a1]) (n := 1) (q := (RX8, TX8, 23)) (ci := 8) (t := 30) (i := 0) ⟨hx, hb, hml, hown, hts⟩ (d_X8_deafSize l E Z v6 a1 hs7) gX8_deafMark_X8_deafSize rfl hV_X8_deafSize ⟨Nat.le_of_ble_eq_true rfl, Nat.le_of_ble_eq_true rfl⟩ hK hw (by decide) (by decide) rfl rfl rfl hl.1 rfl (Nat.le_of_ble_eq_true rfl) dX8_deafMark_15 rfl rfl (fun r8 v9 H locs hp hw => ?_)
  have hF := hF.trans (kb2_some hp _)
  refine lv_isub hx hb dX8_deafMark_18 ?_
  exact hret _ _ _ _ _ _ hw dX8_deafMark_19 hF
abbrev rmX8_ask : Room := { frames := 3, cells := 0, slots := 0, locals := 67 }
def g_X8_ask (v : Mm) (a1 : Int32) (a2 : Int32) : Option (Int32 × Mm) := Option.bind (g_X8_isGuard v a1) (fun r2 => if r2 = 0 then (some ((-1000001), v)) else (Option.bind (g_X8_in v a2 0 1) (fun r6 => if r6 = 0 then (some ((-1000001), v)) else (Option.bind (some (up3 v 30 0 22 0)) (fun v9 => Option.bind (g_X8_kindIn v9 a1) (fun r11 => if r11 < 4 then (if a2 = 0 then (kb2 (g_X8_keenSize v9 a1) (fun r21 v22 => some (r21, v22))) else (kb2 (g_X8_keenMark v9 a1) (fun r17 v18 => some (r17, v18)))) else (if a2 = 0 then (kb2 (g_X8_deafSize v9 a1) (fun r30 v31 => some (r30, v31))) else (kb2 (g_X8_deafMark v9 a1) (fun r26 v27 => some (r26, v27))))))))))
set_option maxHeartbeats 4000000 in
set_option maxRecDepth 100000 in
theorem d_X8_ask (l : Launch) (E : kq_T) (Z : km_Z) (v : Mm) (a1 : Int32) (a2 : Int32) (hs : g_X8_ask v a1 a2 ≠ none) : km_I l E Z cntM yX8_ask wsX8_ask rmX8_ask [.ref (Z.1 30 0), .int a1, .int a2] v (fun r v1 => g_X8_ask v a1 a2 = some (r, v1)) := by
  refine km_goI (cc := cX8_ask) (maxL := 4) (by decide) rfl (Nat.le_of_ble_eq_true rfl) rfl rfl rfl ?_
  intro p e s m below meth c A ls Q C hK hw hl hret
  obtain ⟨hx, hb, hml, hown, hts, -, -, -⟩ := C
  have hown : s.vm.findClass RX8 = some m.cls := hown
  have hl : lv_has ls 4 [(0, .ref (Z.1 30 0)), (1, .int a1), (2, .int a2)] := hl
  have hF := g_X8_ask.eq_1 v a1 a2
  refine lv_aload_n hx hb dX8_ask_0 rfl (lv_at hl 0 rfl) ?_
  refine lv_iload_n hx hb dX8_ask_1 rfl (lv_at hl 1 rfl) ?_
  have hs1 : g_X8_isGuard v a1 ≠ none := fun q => hs (hF.trans (kb_n q _))
  refine km_cI (As := [.int a1]) (rest := []) (n := 1) (q := (RX8, TX8, 23)) (ci := 8) (t := 30) (i := 0) ⟨hx, hb, hml, hown, hts⟩ (d_X8_isGuard l E Z v a1 hs1) gX8_ask_X8_isGuard rfl hV_X8_isGuard ⟨Nat.le_of_ble_eq_true rfl, Nat.le_of_ble_eq_true rfl⟩ hK hw (by decide) (by decide) rfl rfl rfl hl.1 rfl (Nat.le_of_ble_eq_true rfl) dX8_ask_2 rfl rfl (fun r2 v3 H locs hp hw => ?_)
  obtain ⟨hp, hzr2⟩ := hp
  obtain ⟨hp, rfl⟩ := hp
  have hF := hF.trans (kb_some hp _)
  refine lv_if_eq (tgt := 17) hx hb dX8_ask_5 (by decide) (fun c4 => ?_) (fun c4 => ?_)
  · skip
    have hF := hF.trans (if_pos c4)
    refine lv_ldc (v := (-1000001)) hx hb hown (hts (.constant RX8 64 (-1000001)) ow_X8_ask_64) dX8_ask_17 ?_
    exact hret _ _ _ _ _ _ hw dX8_ask_19 hF
  · skip
    have hF := hF.trans (if_neg c4)
    refine lv_iload_n hx hb dX8_ask_8 rfl (lv_at hl 2 rfl) ?_
    refine lv_iconst (v := 0) hx hb dX8_ask_9 (by decide) ?_
    refine lv_iconst (v := 1) hx hb dX8_ask_10 (by decide) ?_
    have hs5 : g_X8_in v a2 0 1 ≠ none := fun q => hs (hF.trans (kb_n q _))
    refine km_cS (As := [.int a2, .int 0, .int 1]) (rest := []) (n := 3) ⟨hx, hb, hml, hown, hts⟩ (d_X8_in l E Z v a2 0 1 hs5) gX8_ask_X8_in rfl hV_X8_in ⟨Nat.le_of_ble_eq_true rfl, Nat.le_of_ble_eq_true rfl⟩ hK hw rfl hl.1 rfl (Nat.le_of_ble_eq_true rfl) dX8_ask_11 rfl rfl (fun r6 v7 H locs hp hw => ?_)
    obtain ⟨hp, hzr6⟩ := hp
    obtain ⟨hp, rfl⟩ := hp
    have hF := hF.trans (kb_some hp _)
    refine lv_if_ne (tgt := 20) hx hb dX8_ask_14 (by decide) (fun c8 => ?_) (fun c8 => ?_)
    · skip
      have hF := hF.trans (if_neg c8)
      refine lv_aload_n hx hb dX8_ask_20 rfl (lv_at hl 0 rfl) ?_
      refine lv_iconst (v := 0) hx hb dX8_ask_21 (by decide) ?_
      refine km_put (ci := 8) (C := RX8) (T := TX8) (N := 23) (t := 30) (i := 0) hx hb hts fi_X8_ask_X8 tyX8 tyX8_ok nmX8 hown hK hw (by decide) (by decide) rfl rfl 22 (by decide) (hts (.fieldLink RX8 237 "WrongWordModel" "traced" "I") ow_X8_ask_237) rfl (by decide +kernel) (Nat.le_of_ble_eq_true rfl) rfl dX8_ask_22 (fun H locs hw => ?_)
      obtain ⟨v9, ev9⟩ : ∃ z, z = up3 v 30 0 22 0 := ⟨_, rfl⟩
      rw [← ev9] at hw
      have hF := hF.trans (kb_some (congrArg some ev9.symm) _)
      refine lv_aload_n hx hb dX8_ask_25 rfl (lv_at hl 0 rfl) ?_
      refine lv_iload_n hx hb dX8_ask_26 rfl (lv_at hl 1 rfl) ?_
      have hs10 : g_X8_kindIn v9 a1 ≠ none := fun q => hs (hF.trans (kb_n q _))
      refine km_cI (As := [.int a1]) (rest := []) (n := 1) (q := (RX8, TX8, 23)) (ci := 8) (t := 30) (i := 0) ⟨hx, hb, hml, hown, hts⟩ (d_X8_kindIn l E Z v9 a1 hs10) gX8_ask_X8_kindIn rfl hV_X8_kindIn ⟨Nat.le_of_ble_eq_true rfl, Nat.le_of_ble_eq_true rfl⟩ hK hw (by decide) (by decide) rfl rfl rfl hl.1 rfl (Nat.le_of_ble_eq_true rfl) dX8_ask_27 rfl rfl (fun r11 v12 H locs hp hw => ?_)
      obtain ⟨hp, rfl⟩ := hp
      have hF := hF.trans (kb_some hp _)
      refine lv_iconst (v := 4) hx hb dX8_ask_30 (by decide) ?_
      refine lv_icmp_lt (tgt := 38) hx hb dX8_ask_31 (by decide) (fun c13 => ?_) (fun c13 => ?_)
      · skip
        have hF := hF.trans (if_pos c13)
        refine lv_iconst (v := 0) hx hb dX8_ask_38 (by decide) ?_
        refine lv_istore_n (lv' := [(3, .int 0), (0, .ref (Z.1 30 0)), (1, .int a1), (2, .int a2)]) hx hb dX8_ask_39 rfl hl (by decide) rfl (fun ls hl => ?_)
        refine lv_iload_n hx hb dX8_ask_40 rfl (lv_at hl 3 rfl) ?_
        refine lv_if_ne (tgt := 62) hx hb dX8_ask_41 (by decide) (fun c14 => ?_) (fun c14 => ?_)
        · skip
          have hF := hF.trans (if_neg c14)
          refine lv_iload_n hx hb dX8_ask_62 rfl (lv_at hl 0 rfl) ?_
          refine lv_if_eq (tgt := 74) hx hb dX8_ask_63 (by decide) (fun c15 => ?_) (fun c15 => ?_)
          rotate_left
          · exact absurd (by decide) c15
          refine lv_aload_n hx hb dX8_ask_74 rfl (lv_at hl 1 rfl) ?_
          refine lv_iload_n hx hb dX8_ask_75 rfl (lv_at hl 2 rfl) ?_
          have hs16 : g_X8_keenMark v9 a1 ≠ none := fun q => hs (hF.trans (kb2_n q _))
          refine km_cI (As := [.int a1]) (rest := []) (n := 1) (q := (RX8, TX8, 23)) (ci := 8) (t := 30) (i := 0) ⟨hx, hb, hml, hown, hts⟩ (d_X8_keenMark l E Z v9 a1 hs16) gX8_ask_X8_keenMark rfl hV_X8_keenMark ⟨Nat.le_of_ble_eq_true rfl, Nat.le_of_ble_eq_true rfl⟩ hK hw (by decide) (by decide) rfl rfl rfl hl.1 rfl (Nat.le_of_ble_eq_true rfl) dX8_ask_76 rfl rfl (fun r17 v18 H locs hp hw => ?_)
          have hF := hF.trans (kb2_some hp _)
          exact hret _ _ _ _ _ _ hw dX8_ask_79 hF
        · skip
          have hF := hF.trans (if_pos c14)
          refine lv_iload_n hx hb dX8_ask_44 rfl (lv_at hl 0 rfl) ?_
          refine lv_if_eq (tgt := 56) hx hb dX8_ask_45 (by decide) (fun c19 => ?_) (fun c19 => ?_)
          rotate_left
          · exact absurd (by decide) c19
          refine lv_aload_n hx hb dX8_ask_56 rfl (lv_at hl 1 rfl) ?_
          refine lv_iload_n hx hb dX8_ask_57 rfl (lv_at hl 2 rfl) ?_
          have hs20 : g_X8_keenSize v9 a1 ≠ none := fun q => hs (hF.trans (kb2_n q _))
          refine km_cI (As := [.int a1]) (rest := []) (n := 1) (q := (RX8, TX8, 23)) (ci := 8) (t := 30) (i := 0) ⟨hx, hb, hml, hown, hts⟩ (d_X8_keenSize l E Z v9 a1 hs20) gX8_ask_X8_keenSize rfl hV_X8_keenSize ⟨Nat.le_of_ble_eq_true rfl, Nat.le_of_ble_eq_true rfl⟩ hK hw (by decide) (by decide) rfl rfl rfl hl.1 rfl (Nat.le_of_ble_eq_true rfl) dX8_ask_58 rfl rfl (fun r21 v22 H locs hp hw => ?_)
          have hF := hF.trans (kb2_some hp _)
          exact hret _ _ _ _ _ _ hw dX8_ask_61 hF
      · skip
        have hF := hF.trans (if_neg c13)
        refine lv_iconst (v := 1) hx hb dX8_ask_34 (by decide) ?_
        refine lv_goto (tgt := 39) hx hb dX8_ask_35 (by decide) ?_
        refine lv_istore_n (lv' := [(3, .int 1), (0, .ref (Z.1 30 0)), (1, .int a1), (2, .int a2)]) hx hb dX8_ask_39 rfl hl (by decide) rfl (fun ls hl => ?_)
        refine lv_iload_n hx hb dX8_ask_40 rfl (lv_at hl 3 rfl) ?_
        refine lv_if_ne (tgt := 62) hx hb dX8_ask_41 (by decide) (fun c23 => ?_) (fun c23 => ?_)
        · skip
          have hF := hF.trans (if_neg c23)
          refine lv_iload_n hx hb dX8_ask_62 rfl (lv_at hl 0 rfl) ?_
          refine lv_if_eq (tgt := 74) hx hb dX8_ask_63 (by decide) (fun c24 => ?_) (fun c24 => ?_)
          · exact absurd c24 (by decide)
          refine lv_aload_n hx hb dX8_ask_66 rfl (lv_at hl 1 rfl) ?_
          refine lv_iload_n hx hb dX8_ask_67 rfl (lv_at hl 2 rfl) ?_
          have hs25 : g_X8_deafMark v9 a1 ≠ none := fun q => hs (hF.trans (kb2_n q _))
          refine km_cI (As := [.int a1]) (rest := []) (n := 1) (q := (RX8, TX8, 23)) (ci := 8) (t := 30) (i := 0) ⟨hx, hb, hml, hown, hts⟩ (d_X8_deafMark l E Z v9 a1 hs25) gX8_ask_X8_deafMark rfl hV_X8_deafMark ⟨Nat.le_of_ble_eq_true rfl, Nat.le_of_ble_eq_true rfl⟩ hK hw (by decide) (by decide) rfl rfl rfl hl.1 rfl (Nat.le_of_ble_eq_true rfl) dX8_ask_68 rfl rfl (fun r26 v27 H locs hp hw => ?_)
          have hF := hF.trans (kb2_some hp _)
          refine lv_goto (tgt := 79) hx hb dX8_ask_71 (by decide) ?_
          exact hret _ _ _ _ _ _ hw dX8_ask_79 hF
        · skip
          have hF := hF.trans (if_pos c23)
          refine lv_iload_n hx hb dX8_ask_44 rfl (lv_at hl 0 rfl) ?_
          refine lv_if_eq (tgt := 56) hx hb dX8_ask_45 (by decide) (fun c28 => ?_) (fun c28 => ?_)
          · exact absurd c28 (by decide)
          refine lv_aload_n hx hb dX8_ask_48 rfl (lv_at hl 1 rfl) ?_
          refine lv_iload_n hx hb dX8_ask_49 rfl (lv_at hl 2 rfl) ?_
          have hs29 : g_X8_deafSize v9 a1 ≠ none := fun q => hs (hF.trans (kb2_n q _))
          refine km_cI (As := [.int a1]) (rest := []) (n := 1) (q := (RX8, TX8, 23)) (ci := 8) (t := 30) (i := 0) ⟨hx, hb, hml, hown, hts⟩ (d_X8_deafSize l E Z v9 a1 hs29) gX8_ask_X8_deafSize rfl hV_X8_deafSize ⟨Nat.le_of_ble_eq_true rfl, Nat.le_of_ble_eq_true rfl⟩ hK hw (by decide) (by decide) rfl rfl rfl hl.1 rfl (Nat.le_of_ble_eq_true rfl) dX8_ask_50 rfl rfl (fun r30 v31 H locs hp hw => ?_)
          have hF := hF.trans (kb2_some hp _)
          refine lv_goto (tgt := 61) hx hb dX8_ask_53 (by decide) ?_
          exact hret _ _ _ _ _ _ hw dX8_ask_61 hF
    · skip
      have hF := hF.trans (if_pos c8)
      refine lv_ldc (v := (-1000001)) hx hb hown (hts (.constant RX8 64 (-1000001)) ow_X8_ask_64) dX8_ask_17 ?_
      exact hret _ _ _ _ _ _ hw dX8_ask_19 hF
abbrev rmX8_trace : Room := { frames := 1, cells := 0, slots := 0, locals := 22 }
def g_X8_trace (v : Mm) (a1 : Int32) : Option (Int32) := Option.bind (g_X8_in v a1 0 ((v 30 0 22) - 1)) (fun r2 => if r2 = 0 then (some ((-1000000))) else (if a1 < 0 ∨ 16 ≤ Int32.toNatClampNeg a1 then none else (some (v 43 0 (Int32.toNatClampNeg a1)))))
set_option maxHeartbeats 4000000 in
set_option maxRecDepth 100000 in
theorem d_X8_trace (l : Launch) (E : kq_T) (Z : km_Z) (v : Mm) (a1 : Int32) (hs : g_X8_trace v a1 ≠ none) : km_I l E Z cntM yX8_trace wsX8_trace rmX8_trace [.ref (Z.1 30 0), .int a1] v (fun r v1 => g_X8_trace v a1 = some r ∧ v = v1) := by
  refine km_goI (cc := cX8_trace) (maxL := 2) (by decide) rfl (Nat.le_of_ble_eq_true rfl) rfl rfl rfl ?_
  intro p e s m below meth c A ls Q C hK hw hl hret
  obtain ⟨hx, hb, hml, hown, hts, -, -, -⟩ := C
  have hown : s.vm.findClass RX8 = some m.cls := hown
  have hl : lv_has ls 2 [(0, .ref (Z.1 30 0)), (1, .int a1)] := hl
  have hF := g_X8_trace.eq_1 v a1
  refine lv_iload_n hx hb dX8_trace_0 rfl (lv_at hl 1 rfl) ?_
  refine lv_iconst (v := 0) hx hb dX8_trace_1 (by decide) ?_
  refine lv_aload_n hx hb dX8_trace_2 rfl (lv_at hl 0 rfl) ?_
  refine km_get (ci := 8) (C := RX8) (T := TX8) (N := 23) (t := 30) (i := 0) hx hb hts fi_X8_trace_X8 hown hK hw (by decide) (by decide) rfl rfl 22 (by decide) (hts (.fieldLink RX8 237 "WrongWordModel" "traced" "I") ow_X8_trace_237) rfl dX8_trace_3 ?_
  refine lv_iconst (v := 1) hx hb dX8_trace_6 (by decide) ?_
  refine lv_isub hx hb dX8_trace_7 ?_
  have hs1 : g_X8_in v a1 0 ((v 30 0 22) - 1) ≠ none := fun q => hs (hF.trans (kb_n q _))
  refine km_cS (As := [.int a1, .int 0, .int ((v 30 0 22) - 1)]) (rest := []) (n := 3) ⟨hx, hb, hml, hown, hts⟩ (d_X8_in l E Z v a1 0 ((v 30 0 22) - 1) hs1) gX8_trace_X8_in rfl hV_X8_in ⟨Nat.le_of_ble_eq_true rfl, Nat.le_of_ble_eq_true rfl⟩ hK hw rfl hl.1 rfl (Nat.le_of_ble_eq_true rfl) dX8_trace_8 rfl rfl (fun r2 v3 H locs hp hw => ?_)
  obtain ⟨hp, hzr2⟩ := hp
  obtain ⟨hp, rfl⟩ := hp
  have hF := hF.trans (kb_some hp _)
  refine lv_if_eq (tgt := 23) hx hb dX8_trace_11 (by decide) (fun c4 => ?_) (fun c4 => ?_)
  · skip
    have hF := hF.trans (if_pos c4)
    refine lv_ldc (v := (-1000000)) hx hb hown (hts (.constant RX8 50 (-1000000)) ow_X8_trace_50) dX8_trace_23 ?_
    exact hret _ _ _ _ _ _ hw dX8_trace_25 ⟨hF, rfl⟩
  · skip
    have hF := hF.trans (if_neg c4)
    refine lv_aload_n hx hb dX8_trace_14 rfl (lv_at hl 0 rfl) ?_
    refine km_get (ci := 8) (C := RX8) (T := TX8) (N := 23) (t := 30) (i := 0) hx hb hts fi_X8_trace_X8 hown hK hw (by decide) (by decide) rfl rfl 21 (by decide) (hts (.fieldLink RX8 47 "WrongWordModel" "trace" "[I") ow_X8_trace_47) rfl dX8_trace_15 ?_
    refine lv_iload_n hx hb dX8_trace_18 rfl (lv_at hl 1 rfl) ?_
    have hb5 : ¬ (a1 < 0 ∨ 16 ≤ Int32.toNatClampNeg a1) := fun q => hs (hF.trans (if_pos q))
    have hF := hF.trans (if_neg hb5)
    refine km_iald (t := 43) (i := 0) hx hb hK hw (by decide) (by decide) rfl hb5 dX8_trace_19 ?_
    refine lv_goto (tgt := 25) hx hb dX8_trace_20 (by decide) ?_
    exact hret _ _ _ _ _ _ hw dX8_trace_25 ⟨hF, rfl⟩
abbrev rmX8_count : Room := { frames := 1, cells := 0, slots := 0, locals := 21 }
def b_X8_count_L58  (rec58 : Int32 → Int32 → Option (Int32)) (v : Mm) (a1 : Int32) (x2_58 : Int32) (x3_58 : Int32) : Option (Int32) := if 8 ≤ x3_58 then (some x2_58) else (Option.bind (g_X8_isMissing v x3_58) (fun r4 => if r4 = 0 then (rec58 (x2_58 + 1) (x3_58 + 1)) else (rec58 (x2_58 + 0) (x3_58 + 1))))
def g_X8_count_L58  (v : Mm) (a1 : Int32) : Nat → Int32 → Int32 → Option (Int32)
  | 0 => fun _ _ => none
  | n + 1 => b_X8_count_L58  (g_X8_count_L58  v a1 n) v a1
def b_X8_count_L144  (rec144 : Int32 → Int32 → Option (Int32)) (v : Mm) (a1 : Int32) (x2_144 : Int32) (x3_144 : Int32) : Option (Int32) := if v 36 0 (Int32.toNatClampNeg 4) ≤ x3_144 then (some x2_144) else (if ((26 : Int32) + ((3 : Int32) * x3_144)) + 2 < 0 ∨ 65 ≤ Int32.toNatClampNeg (((26 : Int32) + ((3 : Int32) * x3_144)) + 2) then none else (Option.bind (some (x2_144 + (v 36 0 (Int32.toNatClampNeg (((26 : Int32) + ((3 : Int32) * x3_144)) + 2))))) (fun x13 => rec144 x13 (x3_144 + 1))))
def g_X8_count_L144  (v : Mm) (a1 : Int32) : Nat → Int32 → Int32 → Option (Int32)
  | 0 => fun _ _ => none
  | n + 1 => b_X8_count_L144  (g_X8_count_L144  v a1 n) v a1
def g_X8_count (v : Mm) (a1 : Int32) : Option (Int32) := if a1 = 0 then (g_X8_count_L58  v a1 2000 0 0) else (if a1 = 1 then (some (v 36 0 (Int32.toNatClampNeg 3))) else (if a1 = 2 then (some (v 36 0 (Int32.toNatClampNeg 4))) else (if a1 = 3 then (some (v 36 0 (Int32.toNatClampNeg 5))) else (if a1 = 4 then (some (v 36 0 (Int32.toNatClampNeg 7))) else (if a1 = 5 then (some (v 36 0 (Int32.toNatClampNeg 6))) else (if a1 = 6 then (some (v 30 0 17)) else (if a1 = 7 then (some (v 30 0 6)) else (if a1 = 8 then (some (v 36 0 (Int32.toNatClampNeg 0))) else (if a1 = 9 then (g_X8_count_L144  v a1 2000 0 0) else (some ((-1000001))))))))))))
set_option maxHeartbeats 4000000 in
set_option maxRecDepth 100000 in
theorem d_X8_count (l : Launch) (E : kq_T) (Z : km_Z) (v : Mm) (a1 : Int32) (hs : g_X8_count v a1 ≠ none) : km_I l E Z cntM yX8_count wsX8_count rmX8_count [.ref (Z.1 30 0), .int a1] v (fun r v1 => g_X8_count v a1 = some r ∧ v = v1) := by
  refine km_goI (cc := cX8_count) (maxL := 4) (by decide) rfl (Nat.le_of_ble_eq_true rfl) rfl rfl rfl ?_
  intro p e s m below meth c A ls Q C hK hw hl hret
  obtain ⟨hx, hb, hml, hown, hts, -, -, -⟩ := C
  have hown : s.vm.findClass RX8 = some m.cls := hown
  have hl : lv_has ls 4 [(0, .ref (Z.1 30 0)), (1, .int a1)] := hl
  have hF := g_X8_count.eq_1 v a1
  have loop144 : ∀ (n144 : Nat) (x2_144 : Int32) (x3_144 : Int32) (H : Heap) (locs : List Loc) (ls : Array Slot), g_X8_count v a1 = g_X8_count_L144  v a1 n144 x2_144 x3_144 → km_w E A s.heap [] Z cntM v H locs → lv_has ls 4 [(0, .ref (Z.1 30 0)), (1, .int a1), (2, .int x2_144), (3, .int x3_144)] → W p l e rmX8_count s m [.ref (Z.1 30 0), .int a1].toArray below meth c H locs 0 0 Q (F0 m 144 ls []) := by
    intro n144
    induction n144 with
    | zero => intro x2_144 x3_144 H locs ls hF hw hl; exact absurd (show g_X8_count v a1 = none from hF) hs
    | succ n144 ih144 =>
      intro x2_144 x3_144 H locs ls hF hw hl
      have hF := hF.trans (b_X8_count_L144.eq_1  (g_X8_count_L144  v a1 n144) v a1 x2_144 x3_144)
      refine lv_iload_n hx hb dX8_count_144 rfl (lv_at hl 3 rfl) ?_
      refine lv_aload_n hx hb dX8_count_145 rfl (lv_at hl 0 rfl) ?_
      refine km_get (ci := 8) (C := RX8) (T := TX8) (N := 23) (t := 30) (i := 0) hx hb hts fi_X8_count_X8 hown hK hw (by decide) (by decide) rfl rfl 13 (by decide) (hts (.fieldLink RX8 25 "WrongWordModel" "now" "[I") ow_X8_count_25) rfl dX8_count_146 ?_
      refine lv_iconst (v := 4) hx hb dX8_count_149 (by decide) ?_
      refine km_iald (t := 36) (i := 0) hx hb hK hw (by decide) (by decide) rfl (by unfold vp_in; decide) dX8_count_150 ?_
      refine lv_icmp_ge (tgt := 176) hx hb dX8_count_151 (by decide) (fun c1 => ?_) (fun c1 => ?_)
      · skip
        have hF := hF.trans (if_pos c1)
        refine lv_iload_n hx hb dX8_count_176 rfl (lv_at hl 2 rfl) ?_
        exact hret _ _ _ _ _ _ hw dX8_count_177 ⟨hF, rfl⟩
      · skip
        have hF := hF.trans (if_neg c1)
        refine lv_iload_n hx hb dX8_count_154 rfl (lv_at hl 2 rfl) ?_
        refine lv_aload_n hx hb dX8_count_155 rfl (lv_at hl 0 rfl) ?_
        refine km_get (ci := 8) (C := RX8) (T := TX8) (N := 23) (t := 30) (i := 0) hx hb hts fi_X8_count_X8 hown hK hw (by decide) (by decide) rfl rfl 13 (by decide) (hts (.fieldLink RX8 25 "WrongWordModel" "now" "[I") ow_X8_count_25) rfl dX8_count_156 ?_
        refine lv_bipush (v := 26) hx hb dX8_count_159 (by decide) ?_
        refine lv_iconst (v := 3) hx hb dX8_count_161 (by decide) ?_
        refine lv_iload_n hx hb dX8_count_162 rfl (lv_at hl 3 rfl) ?_
        refine lv_imul hx hb dX8_count_163 ?_
        refine lv_iadd hx hb dX8_count_164 ?_
        refine lv_iconst (v := 2) hx hb dX8_count_165 (by decide) ?_
        refine lv_iadd hx hb dX8_count_166 ?_
        have hb2 : ¬ (((26 : Int32) + ((3 : Int32) * x3_144)) + 2 < 0 ∨ 65 ≤ Int32.toNatClampNeg (((26 : Int32) + ((3 : Int32) * x3_144)) + 2)) := fun q => hs (hF.trans (if_pos q))
        have hF := hF.trans (if_neg hb2)
        refine km_iald (t := 36) (i := 0) hx hb hK hw (by decide) (by decide) rfl hb2 dX8_count_167 ?_
        refine lv_iadd hx hb dX8_count_168 ?_
        refine lv_topi (fun x3 ex3 => ?_)
        have hF := hF.trans (kb_some (congrArg some ex3.symm) _)
        refine lv_istore_n (lv' := [(2, .int x3), (0, .ref (Z.1 30 0)), (1, .int a1), (3, .int x3_144)]) hx hb dX8_count_169 rfl hl (by decide) rfl (fun ls hl => ?_)
        refine lv_iinc (v := x3_144 + 1) (lv' := [(3, .int (x3_144 + 1)), (2, .int x3), (0, .ref (Z.1 30 0)), (1, .int a1)]) hx hb dX8_count_170 hl (k := 3) rfl rfl (by decide) rfl (fun ls hl => ?_)
        refine lv_goto (tgt := 144) hx hb dX8_count_173 (by decide) ?_
        have hl := lv_sub (l' := [(0, .ref (Z.1 30 0)), (1, .int a1), (2, .int x3), (3, .int (x3_144 + 1))]) hl [2, 3, 1, 0] rfl
        exact ih144 x3 (x3_144 + 1) _ _ _ hF hw hl
  have loop58 : ∀ (n58 : Nat) (x2_58 : Int32) (x3_58 : Int32) (H : Heap) (locs : List Loc) (ls : Array Slot), g_X8_count v a1 = g_X8_count_L58  v a1 n58 x2_58 x3_58 → km_w E A s.heap [] Z cntM v H locs → lv_has ls 4 [(0, .ref (Z.1 30 0)), (1, .int a1), (2, .int x2_58), (3, .int x3_58)] → W p l e rmX8_count s m [.ref (Z.1 30 0), .int a1].toArray below meth c H locs 0 0 Q (F0 m 58 ls []) := by
    intro n58
    induction n58 with
    | zero => intro x2_58 x3_58 H locs ls hF hw hl; exact absurd (show g_X8_count v a1 = none from hF) hs
    | succ n58 ih58 =>
      intro x2_58 x3_58 H locs ls hF hw hl
      have hF := hF.trans (b_X8_count_L58.eq_1  (g_X8_count_L58  v a1 n58) v a1 x2_58 x3_58)
      refine lv_iload_n hx hb dX8_count_58 rfl (lv_at hl 3 rfl) ?_
      refine lv_bipush (v := 8) hx hb dX8_count_59 (by decide) ?_
      refine lv_icmp_ge (tgt := 86) hx hb dX8_count_61 (by decide) (fun c4 => ?_) (fun c4 => ?_)
      · skip
        have hF := hF.trans (if_pos c4)
        refine lv_iload_n hx hb dX8_count_86 rfl (lv_at hl 2 rfl) ?_
        exact hret _ _ _ _ _ _ hw dX8_count_87 ⟨hF, rfl⟩
      · skip
        have hF := hF.trans (if_neg c4)
        refine lv_iload_n hx hb dX8_count_64 rfl (lv_at hl 2 rfl) ?_
        refine lv_aload_n hx hb dX8_count_65 rfl (lv_at hl 0 rfl) ?_
        refine lv_iload_n hx hb dX8_count_66 rfl (lv_at hl 3 rfl) ?_
        have hs5 : g_X8_isMissing v x3_58 ≠ none := fun q => hs (hF.trans (kb_n q _))
        refine km_cI (As := [.int x3_58]) (rest := [.int x2_58]) (n := 1) (q := (RX8, TX8, 23)) (ci := 8) (t := 30) (i := 0) ⟨hx, hb, hml, hown, hts⟩ (d_X8_isMissing l E Z v x3_58 hs5) gX8_count_X8_isMissing rfl hV_X8_isMissing ⟨Nat.le_of_ble_eq_true rfl, Nat.le_of_ble_eq_true rfl⟩ hK hw (by decide) (by decide) rfl rfl rfl hl.1 rfl (Nat.le_of_ble_eq_true rfl) dX8_count_67 rfl rfl (fun r6 v7 H locs hp hw => ?_)
        obtain ⟨hp, hzr6⟩ := hp
        obtain ⟨hp, rfl⟩ := hp
        have hF := hF.trans (kb_some hp _)
        refine lv_if_eq (tgt := 77) hx hb dX8_count_70 (by decide) (fun c8 => ?_) (fun c8 => ?_)
        · skip
          have hF := hF.trans (if_pos c8)
          refine lv_iconst (v := 1) hx hb dX8_count_77 (by decide) ?_
          refine lv_iadd hx hb dX8_count_78 ?_
          refine lv_istore_n (lv' := [(2, .int (x2_58 + 1)), (0, .ref (Z.1 30 0)), (1, .int a1), (3, .int x3_58)]) hx hb dX8_count_79 rfl hl (by decide) rfl (fun ls hl => ?_)
          refine lv_iinc (v := x3_58 + 1) (lv' := [(3, .int (x3_58 + 1)), (2, .int (x2_58 + 1)), (0, .ref (Z.1 30 0)), (1, .int a1)]) hx hb dX8_count_80 hl (k := 3) rfl rfl (by decide) rfl (fun ls hl => ?_)
          refine lv_goto (tgt := 58) hx hb dX8_count_83 (by decide) ?_
          have hl := lv_sub (l' := [(0, .ref (Z.1 30 0)), (1, .int a1), (2, .int (x2_58 + 1)), (3, .int (x3_58 + 1))]) hl [2, 3, 1, 0] rfl
          exact ih58 (x2_58 + 1) (x3_58 + 1) _ _ _ hF hw hl
        · skip
          have hF := hF.trans (if_neg c8)
          refine lv_iconst (v := 0) hx hb dX8_count_73 (by decide) ?_
          refine lv_goto (tgt := 78) hx hb dX8_count_74 (by decide) ?_
          refine lv_iadd hx hb dX8_count_78 ?_
          refine lv_istore_n (lv' := [(2, .int (x2_58 + 0)), (0, .ref (Z.1 30 0)), (1, .int a1), (3, .int x3_58)]) hx hb dX8_count_79 rfl hl (by decide) rfl (fun ls hl => ?_)
          refine lv_iinc (v := x3_58 + 1) (lv' := [(3, .int (x3_58 + 1)), (2, .int (x2_58 + 0)), (0, .ref (Z.1 30 0)), (1, .int a1)]) hx hb dX8_count_80 hl (k := 3) rfl rfl (by decide) rfl (fun ls hl => ?_)
          refine lv_goto (tgt := 58) hx hb dX8_count_83 (by decide) ?_
          have hl := lv_sub (l' := [(0, .ref (Z.1 30 0)), (1, .int a1), (2, .int (x2_58 + 0)), (3, .int (x3_58 + 1))]) hl [2, 3, 1, 0] rfl
          exact ih58 (x2_58 + 0) (x3_58 + 1) _ _ _ hF hw hl
  refine lv_iconst (v := 0) hx hb dX8_count_0 (by decide) ?_
  refine lv_istore_n (lv' := [(2, .int 0), (0, .ref (Z.1 30 0)), (1, .int a1)]) hx hb dX8_count_1 rfl hl (by decide) rfl (fun ls hl => ?_)
  refine lv_iload_n hx hb dX8_count_2 rfl (lv_at hl 2 rfl) ?_
  by_cases c9 : a1 = 0
  · skip
    have hF := hF.trans (if_pos c9)
    refine lv_tableIn (tgt := 56) (off := 53) hx hb dX8_count_3 (by rw [c9]; decide) (by rw [c9]; decide) (by rw [c9]; rfl) (by decide) ?_
    refine lv_iconst (v := 0) hx hb dX8_count_56 (by decide) ?_
    refine lv_istore_n (lv' := [(3, .int 0), (2, .int 0), (0, .ref (Z.1 30 0)), (1, .int a1)]) hx hb dX8_count_57 rfl hl (by decide) rfl (fun ls hl => ?_)
    have hl := lv_sub (l' := [(0, .ref (Z.1 30 0)), (1, .int a1), (2, .int 0), (3, .int 0)]) hl [2, 3, 1, 0] rfl
    exact loop58 2000 0 0 _ _ _ hF hw hl
  have hF := hF.trans (if_neg c9)
  by_cases c10 : a1 = 1
  · skip
    have hF := hF.trans (if_pos c10)
    refine lv_tableIn (tgt := 88) (off := 85) hx hb dX8_count_3 (by rw [c10]; decide) (by rw [c10]; decide) (by rw [c10]; rfl) (by decide) ?_
    refine lv_aload_n hx hb dX8_count_88 rfl (lv_at hl 1 rfl) ?_
    refine km_get (ci := 8) (C := RX8) (T := TX8) (N := 23) (t := 30) (i := 0) hx hb hts fi_X8_count_X8 hown hK hw (by decide) (by decide) rfl rfl 13 (by decide) (hts (.fieldLink RX8 25 "WrongWordModel" "now" "[I") ow_X8_count_25) rfl dX8_count_89 ?_
    refine lv_iconst (v := 3) hx hb dX8_count_92 (by decide) ?_
    refine km_iald (t := 36) (i := 0) hx hb hK hw (by decide) (by decide) rfl (by unfold vp_in; decide) dX8_count_93 ?_
    exact hret _ _ _ _ _ _ hw dX8_count_94 ⟨hF, rfl⟩
  have hF := hF.trans (if_neg c10)
  by_cases c11 : a1 = 2
  · skip
    have hF := hF.trans (if_pos c11)
    refine lv_tableIn (tgt := 95) (off := 92) hx hb dX8_count_3 (by rw [c11]; decide) (by rw [c11]; decide) (by rw [c11]; rfl) (by decide) ?_
    refine lv_aload_n hx hb dX8_count_95 rfl (lv_at hl 1 rfl) ?_
    refine km_get (ci := 8) (C := RX8) (T := TX8) (N := 23) (t := 30) (i := 0) hx hb hts fi_X8_count_X8 hown hK hw (by decide) (by decide) rfl rfl 13 (by decide) (hts (.fieldLink RX8 25 "WrongWordModel" "now" "[I") ow_X8_count_25) rfl dX8_count_96 ?_
    refine lv_iconst (v := 4) hx hb dX8_count_99 (by decide) ?_
    refine km_iald (t := 36) (i := 0) hx hb hK hw (by decide) (by decide) rfl (by unfold vp_in; decide) dX8_count_100 ?_
    exact hret _ _ _ _ _ _ hw dX8_count_101 ⟨hF, rfl⟩
  have hF := hF.trans (if_neg c11)
  by_cases c12 : a1 = 3
  · skip
    have hF := hF.trans (if_pos c12)
    refine lv_tableIn (tgt := 102) (off := 99) hx hb dX8_count_3 (by rw [c12]; decide) (by rw [c12]; decide) (by rw [c12]; rfl) (by decide) ?_
    refine lv_aload_n hx hb dX8_count_102 rfl (lv_at hl 1 rfl) ?_
    refine km_get (ci := 8) (C := RX8) (T := TX8) (N := 23) (t := 30) (i := 0) hx hb hts fi_X8_count_X8 hown hK hw (by decide) (by decide) rfl rfl 13 (by decide) (hts (.fieldLink RX8 25 "WrongWordModel" "now" "[I") ow_X8_count_25) rfl dX8_count_103 ?_
    refine lv_iconst (v := 5) hx hb dX8_count_106 (by decide) ?_
    refine km_iald (t := 36) (i := 0) hx hb hK hw (by decide) (by decide) rfl (by unfold vp_in; decide) dX8_count_107 ?_
    exact hret _ _ _ _ _ _ hw dX8_count_108 ⟨hF, rfl⟩
  have hF := hF.trans (if_neg c12)
  by_cases c13 : a1 = 4
  · skip
    have hF := hF.trans (if_pos c13)
    refine lv_tableIn (tgt := 109) (off := 106) hx hb dX8_count_3 (by rw [c13]; decide) (by rw [c13]; decide) (by rw [c13]; rfl) (by decide) ?_
    refine lv_aload_n hx hb dX8_count_109 rfl (lv_at hl 1 rfl) ?_
    refine km_get (ci := 8) (C := RX8) (T := TX8) (N := 23) (t := 30) (i := 0) hx hb hts fi_X8_count_X8 hown hK hw (by decide) (by decide) rfl rfl 13 (by decide) (hts (.fieldLink RX8 25 "WrongWordModel" "now" "[I") ow_X8_count_25) rfl dX8_count_110 ?_
    refine lv_bipush (v := 7) hx hb dX8_count_113 (by decide) ?_
    refine km_iald (t := 36) (i := 0) hx hb hK hw (by decide) (by decide) rfl (by unfold vp_in; decide) dX8_count_115 ?_
    exact hret _ _ _ _ _ _ hw dX8_count_116 ⟨hF, rfl⟩
  have hF := hF.trans (if_neg c13)
  by_cases c14 : a1 = 5
  · skip
    have hF := hF.trans (if_pos c14)
    refine lv_tableIn (tgt := 117) (off := 114) hx hb dX8_count_3 (by rw [c14]; decide) (by rw [c14]; decide) (by rw [c14]; rfl) (by decide) ?_
    refine lv_aload_n hx hb dX8_count_117 rfl (lv_at hl 1 rfl) ?_
    refine km_get (ci := 8) (C := RX8) (T := TX8) (N := 23) (t := 30) (i := 0) hx hb hts fi_X8_count_X8 hown hK hw (by decide) (by decide) rfl rfl 13 (by decide) (hts (.fieldLink RX8 25 "WrongWordModel" "now" "[I") ow_X8_count_25) rfl dX8_count_118 ?_
    refine lv_bipush (v := 6) hx hb dX8_count_121 (by decide) ?_
    refine km_iald (t := 36) (i := 0) hx hb hK hw (by decide) (by decide) rfl (by unfold vp_in; decide) dX8_count_123 ?_
    exact hret _ _ _ _ _ _ hw dX8_count_124 ⟨hF, rfl⟩
  have hF := hF.trans (if_neg c14)
  by_cases c15 : a1 = 6
  · skip
    have hF := hF.trans (if_pos c15)
    refine lv_tableIn (tgt := 125) (off := 122) hx hb dX8_count_3 (by rw [c15]; decide) (by rw [c15]; decide) (by rw [c15]; rfl) (by decide) ?_
    refine lv_aload_n hx hb dX8_count_125 rfl (lv_at hl 1 rfl) ?_
    refine km_get (ci := 8) (C := RX8) (T := TX8) (N := 23) (t := 30) (i := 0) hx hb hts fi_X8_count_X8 hown hK hw (by decide) (by decide) rfl rfl 17 (by decide) (hts (.fieldLink RX8 149 "WrongWordModel" "acts" "I") ow_X8_count_149) rfl dX8_count_126 ?_
    exact hret _ _ _ _ _ _ hw dX8_count_129 ⟨hF, rfl⟩
  have hF := hF.trans (if_neg c15)
  by_cases c16 : a1 = 7
  · skip
    have hF := hF.trans (if_pos c16)
    refine lv_tableIn (tgt := 130) (off := 127) hx hb dX8_count_3 (by rw [c16]; decide) (by rw [c16]; decide) (by rw [c16]; rfl) (by decide) ?_
    refine lv_aload_n hx hb dX8_count_130 rfl (lv_at hl 1 rfl) ?_
    refine km_get (ci := 8) (C := RX8) (T := TX8) (N := 23) (t := 30) (i := 0) hx hb hts fi_X8_count_X8 hown hK hw (by decide) (by decide) rfl rfl 6 (by decide) (hts (.fieldLink RX8 82 "WrongWordModel" "taped" "I") ow_X8_count_82) rfl dX8_count_131 ?_
    exact hret _ _ _ _ _ _ hw dX8_count_134 ⟨hF, rfl⟩
  have hF := hF.trans (if_neg c16)
  by_cases c17 : a1 = 8
  · skip
    have hF := hF.trans (if_pos c17)
    refine lv_tableIn (tgt := 135) (off := 132) hx hb dX8_count_3 (by rw [c17]; decide) (by rw [c17]; decide) (by rw [c17]; rfl) (by decide) ?_
    refine lv_aload_n hx hb dX8_count_135 rfl (lv_at hl 1 rfl) ?_
    refine km_get (ci := 8) (C := RX8) (T := TX8) (N := 23) (t := 30) (i := 0) hx hb hts fi_X8_count_X8 hown hK hw (by decide) (by decide) rfl rfl 13 (by decide) (hts (.fieldLink RX8 25 "WrongWordModel" "now" "[I") ow_X8_count_25) rfl dX8_count_136 ?_
    refine lv_iconst (v := 0) hx hb dX8_count_139 (by decide) ?_
    refine km_iald (t := 36) (i := 0) hx hb hK hw (by decide) (by decide) rfl (by unfold vp_in; decide) dX8_count_140 ?_
    exact hret _ _ _ _ _ _ hw dX8_count_141 ⟨hF, rfl⟩
  have hF := hF.trans (if_neg c17)
  by_cases c18 : a1 = 9
  · skip
    have hF := hF.trans (if_pos c18)
    refine lv_tableIn (tgt := 142) (off := 139) hx hb dX8_count_3 (by rw [c18]; decide) (by rw [c18]; decide) (by rw [c18]; rfl) (by decide) ?_
    refine lv_iconst (v := 0) hx hb dX8_count_142 (by decide) ?_
    refine lv_istore_n (lv' := [(3, .int 0), (2, .int 0), (0, .ref (Z.1 30 0)), (1, .int a1)]) hx hb dX8_count_143 rfl hl (by decide) rfl (fun ls hl => ?_)
    have hl := lv_sub (l' := [(0, .ref (Z.1 30 0)), (1, .int a1), (2, .int 0), (3, .int 0)]) hl [2, 3, 1, 0] rfl
    exact loop144 2000 0 0 _ _ _ hF hw hl
  have hF := hF.trans (if_neg c18)
  have nc9 : ¬ Int32.toInt a1 = 0 := fun q => c9 (Int32.toInt_inj.mp (q.trans (by decide)))
  have nc10 : ¬ Int32.toInt a1 = 1 := fun q => c10 (Int32.toInt_inj.mp (q.trans (by decide)))
  have nc11 : ¬ Int32.toInt a1 = 2 := fun q => c11 (Int32.toInt_inj.mp (q.trans (by decide)))
  have nc12 : ¬ Int32.toInt a1 = 3 := fun q => c12 (Int32.toInt_inj.mp (q.trans (by decide)))
  have nc13 : ¬ Int32.toInt a1 = 4 := fun q => c13 (Int32.toInt_inj.mp (q.trans (by decide)))
  have nc14 : ¬ Int32.toInt a1 = 5 := fun q => c14 (Int32.toInt_inj.mp (q.trans (by decide)))
  have nc15 : ¬ Int32.toInt a1 = 6 := fun q => c15 (Int32.toInt_inj.mp (q.trans (by decide)))
  have nc16 : ¬ Int32.toInt a1 = 7 := fun q => c16 (Int32.toInt_inj.mp (q.trans (by decide)))
  have nc17 : ¬ Int32.toInt a1 = 8 := fun q => c17 (Int32.toInt_inj.mp (q.trans (by decide)))
  have nc18 : ¬ Int32.toInt a1 = 9 := fun q => c18 (Int32.toInt_inj.mp (q.trans (by decide)))
  refine lv_tableOut (tgt := 178) hx hb dX8_count_3 (by omega) (by decide) ?_
  refine lv_ldc (v := (-1000001)) hx hb hown (hts (.constant RX8 64 (-1000001)) ow_X8_count_64) dX8_count_178 ?_
  exact hret _ _ _ _ _ _ hw dX8_count_180 ⟨hF, rfl⟩
abbrev rmX8_status : Room := { frames := 0, cells := 0, slots := 0, locals := 0 }
def g_X8_status (v : Mm)  : Option (Int32) := some (v 30 0 4)
set_option maxHeartbeats 4000000 in
set_option maxRecDepth 100000 in
theorem d_X8_status (l : Launch) (E : kq_T) (Z : km_Z) (v : Mm) (hs : g_X8_status v ≠ none) : km_I l E Z cntM yX8_status wsX8_status rmX8_status [.ref (Z.1 30 0)] v (fun r v1 => g_X8_status v = some r ∧ v = v1) := by
  refine km_goI (cc := cX8_status) (maxL := 1) (by decide) rfl (Nat.le_of_ble_eq_true rfl) rfl rfl rfl ?_
  intro p e s m below meth c A ls Q C hK hw hl hret
  obtain ⟨hx, hb, hml, hown, hts, -, -, -⟩ := C
  have hown : s.vm.findClass RX8 = some m.cls := hown
  have hl : lv_has ls 1 [(0, .ref (Z.1 30 0))] := hl
  have hF := g_X8_status.eq_1 v 
  refine lv_aload_n hx hb dX8_status_0 rfl (lv_at hl 0 rfl) ?_
  refine km_get (ci := 8) (C := RX8) (T := TX8) (N := 23) (t := 30) (i := 0) hx hb hts fi_X8_status_X8 hown hK hw (by decide) (by decide) rfl rfl 4 (by decide) (hts (.fieldLink RX8 51 "WrongWordModel" "status" "I") ow_X8_status_51) rfl dX8_status_1 ?_
  exact hret _ _ _ _ _ _ hw dX8_status_4 ⟨hF, rfl⟩
