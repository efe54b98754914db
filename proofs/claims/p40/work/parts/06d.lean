abbrev rmX7_guard : Room := { frames := 3, cells := 0, slots := 0, locals := 66 }
def g_X7_guard (v : Mm) (a1 : Int32) (a2 : Int32) : Option (Int32) := Option.bind (g_X7_isGuard v a1) (fun r2 => if r2 = 0 then (some ((-1000001))) else (if a2 = 0 then (if a1 < 0 ∨ 4 ≤ Int32.toNatClampNeg a1 then none else (some (v 9 0 (Int32.toNatClampNeg a1)))) else (if a2 = 1 then (if a1 < 0 ∨ 4 ≤ Int32.toNatClampNeg a1 then none else (some (v 11 0 (Int32.toNatClampNeg a1)))) else (if a2 = 2 then (Option.bind (g_X2_isThere v 0 a1) (fun r11 => Option.bind (g_X7_bit v r11) (fun r14 => some r14))) else (if a2 = 3 then (Option.bind (g_X2_hoursOf v 0 a1) (fun r18 => some r18)) else (some ((-1000001))))))))
set_option maxHeartbeats 4000000 in
set_option maxRecDepth 100000 in
theorem d_X7_guard (l : Launch) (E : kq_T) (Z : km_Z) (v : Mm) (a1 : Int32) (a2 : Int32) (hs : g_X7_guard v a1 a2 ≠ none) : km_I l E Z cntX yX7_guard wsX7_guard rmX7_guard [.ref (Z.1 0 0), .int a1, .int a2] v (fun r v1 => g_X7_guard v a1 a2 = some r ∧ v = v1) := by
  refine km_goI (cc := cX7_guard) (maxL := 3) (by decide) rfl (Nat.le_of_ble_eq_true rfl) rfl rfl rfl ?_
  intro p e s m below meth c A ls Q C hK hw hl hret
  obtain ⟨hx, hb, hml, hown, hts, -, -, -⟩ := C
  have hown : s.vm.findClass RX7 = some m.cls := hown
  have hl : lv_has ls 3 [(0, .ref (Z.1 0 0)), (1, .int a1), (2, .int a2)] := hl
  have hF := g_X7_guard.eq_1 v a1 a2
  refine lv_aload_n hx hb dX7_guard_0 rfl (lv_at hl 0 rfl) ?_
  refine lv_iload_n hx hb dX7_guard_1 rfl (lv_at hl 1 rfl) ?_
  have hs1 : g_X7_isGuard v a1 ≠ none := fun q => hs (hF.trans (kb_n q _))
  refine km_cI (As := [.int a1]) (rest := []) (n := 1) (q := (RX7, TX7, 9)) (ci := 7) (t := 0) (i := 0) ⟨hx, hb, hml, hown, hts⟩ (d_X7_isGuard l E Z v a1 hs1) gX7_guard_X7_isGuard rfl hV_X7_isGuard ⟨Nat.le_of_ble_eq_true rfl, Nat.le_of_ble_eq_true rfl⟩ hK hw (by decide) (by decide) rfl rfl rfl hl.1 rfl (Nat.le_of_ble_eq_true rfl) dX7_guard_2 rfl rfl (fun r2 v3 H locs hp hw => ?_)
  obtain ⟨hp, hzr2⟩ := hp
  obtain ⟨hp, rfl⟩ := hp
  have hF := hF.trans (kb_some hp _)
  refine lv_if_ne (tgt := 11) hx hb dX7_guard_5 (by decide) (fun c4 => ?_) (fun c4 => ?_)
  · skip
    have hF := hF.trans (if_neg c4)
    refine lv_iload_n hx hb dX7_guard_11 rfl (lv_at hl 2 rfl) ?_
    by_cases c5 : a2 = 0
    · skip
      have hF := hF.trans (if_pos c5)
      refine lv_tableIn (tgt := 44) (off := 32) hx hb dX7_guard_12 (by rw [c5]; decide) (by rw [c5]; decide) (by rw [c5]; rfl) (by decide) ?_
      refine lv_aload_n hx hb dX7_guard_44 rfl (lv_at hl 0 rfl) ?_
      refine km_get (ci := 7) (C := RX7) (T := TX7) (N := 9) (t := 0) (i := 0) hx hb hts fi_X7_guard_X7 hown hK hw (by decide) (by decide) rfl rfl 2 (by decide) (hts (.fieldLink RX7 25 "WrongWord" "gate" "LWrongWord$Gate;") ow_X7_guard_25) rfl dX7_guard_45 ?_
      refine km_get (ci := 2) (C := RX2) (T := TX2) (N := 8) (t := 6) (i := 0) hx hb hts fi_X7_guard_X2 hown hK hw (by decide) (by decide) rfl rfl 2 (by decide) (hts (.fieldLink RX7 209 "WrongWord$Gate" "fees" "[I") ow_X7_guard_209) rfl dX7_guard_48 ?_
      refine lv_iload_n hx hb dX7_guard_51 rfl (lv_at hl 1 rfl) ?_
      have hb6 : ¬ (a1 < 0 ∨ 4 ≤ Int32.toNatClampNeg a1) := fun q => hs (hF.trans (if_pos q))
      have hF := hF.trans (if_neg hb6)
      refine km_iald (t := 9) (i := 0) hx hb hK hw (by decide) (by decide) rfl hb6 dX7_guard_52 ?_
      exact hret _ _ _ _ _ _ hw dX7_guard_53 ⟨hF, rfl⟩
    have hF := hF.trans (if_neg c5)
    by_cases c7 : a2 = 1
    · skip
      have hF := hF.trans (if_pos c7)
      refine lv_tableIn (tgt := 54) (off := 42) hx hb dX7_guard_12 (by rw [c7]; decide) (by rw [c7]; decide) (by rw [c7]; rfl) (by decide) ?_
      refine lv_aload_n hx hb dX7_guard_54 rfl (lv_at hl 0 rfl) ?_
      refine km_get (ci := 7) (C := RX7) (T := TX7) (N := 9) (t := 0) (i := 0) hx hb hts fi_X7_guard_X7 hown hK hw (by decide) (by decide) rfl rfl 2 (by decide) (hts (.fieldLink RX7 25 "WrongWord" "gate" "LWrongWord$Gate;") ow_X7_guard_25) rfl dX7_guard_55 ?_
      refine km_get (ci := 2) (C := RX2) (T := TX2) (N := 8) (t := 6) (i := 0) hx hb hts fi_X7_guard_X2 hown hK hw (by decide) (by decide) rfl rfl 3 (by decide) (hts (.fieldLink RX7 137 "WrongWord$Gate" "now" "LWrongWord$Moment;") ow_X7_guard_137) rfl dX7_guard_58 ?_
      refine km_get (ci := 4) (C := RX4) (T := TX4) (N := 8) (t := 10) (i := 0) hx hb hts fi_X7_guard_X4 hown hK hw (by decide) (by decide) rfl rfl 0 (by decide) (hts (.fieldLink RX7 212 "WrongWord$Moment" "took" "[I") ow_X7_guard_212) rfl dX7_guard_61 ?_
      refine lv_iload_n hx hb dX7_guard_64 rfl (lv_at hl 1 rfl) ?_
      have hb8 : ¬ (a1 < 0 ∨ 4 ≤ Int32.toNatClampNeg a1) := fun q => hs (hF.trans (if_pos q))
      have hF := hF.trans (if_neg hb8)
      refine km_iald (t := 11) (i := 0) hx hb hK hw (by decide) (by decide) rfl hb8 dX7_guard_65 ?_
      exact hret _ _ _ _ _ _ hw dX7_guard_66 ⟨hF, rfl⟩
    have hF := hF.trans (if_neg c7)
    by_cases c9 : a2 = 2
    · skip
      have hF := hF.trans (if_pos c9)
      refine lv_tableIn (tgt := 67) (off := 55) hx hb dX7_guard_12 (by rw [c9]; decide) (by rw [c9]; decide) (by rw [c9]; rfl) (by decide) ?_
      refine lv_aload_n hx hb dX7_guard_67 rfl (lv_at hl 0 rfl) ?_
      refine km_get (ci := 7) (C := RX7) (T := TX7) (N := 9) (t := 0) (i := 0) hx hb hts fi_X7_guard_X7 hown hK hw (by decide) (by decide) rfl rfl 2 (by decide) (hts (.fieldLink RX7 25 "WrongWord" "gate" "LWrongWord$Gate;") ow_X7_guard_25) rfl dX7_guard_68 ?_
      refine lv_iload_n hx hb dX7_guard_71 rfl (lv_at hl 1 rfl) ?_
      have hs10 : g_X2_isThere v 0 a1 ≠ none := fun q => hs (hF.trans (kb_n q _))
      refine km_cI (As := [.int a1]) (rest := []) (n := 1) (q := (RX2, TX2, 8)) (ci := 2) (t := 6) (i := 0) ⟨hx, hb, hml, hown, hts⟩ (d_X2_isThere l E Z v 0 (by decide) a1 hs10) gX7_guard_X2_isThere rfl hV_X2_isThere ⟨Nat.le_of_ble_eq_true rfl, Nat.le_of_ble_eq_true rfl⟩ hK hw (by decide) (by decide) rfl rfl rfl hl.1 rfl (Nat.le_of_ble_eq_true rfl) dX7_guard_72 rfl rfl (fun r11 v12 H locs hp hw => ?_)
      obtain ⟨hp, hzr11⟩ := hp
      obtain ⟨hp, rfl⟩ := hp
      have hF := hF.trans (kb_some hp _)
      have hs13 : g_X7_bit v r11 ≠ none := fun q => hs (hF.trans (kb_n q _))
      refine km_cS (As := [.int r11]) (rest := []) (n := 1) ⟨hx, hb, hml, hown, hts⟩ (d_X7_bit l E Z v r11 hs13) gX7_guard_X7_bit rfl hV_X7_bit ⟨Nat.le_of_ble_eq_true rfl, Nat.le_of_ble_eq_true rfl⟩ hK hw rfl hl.1 rfl (Nat.le_of_ble_eq_true rfl) dX7_guard_75 rfl rfl (fun r14 v15 H locs hp hw => ?_)
      obtain ⟨hp, rfl⟩ := hp
      have hF := hF.trans (kb_some hp _)
      exact hret _ _ _ _ _ _ hw dX7_guard_78 ⟨hF, rfl⟩
    have hF := hF.trans (if_neg c9)
    by_cases c16 : a2 = 3
    · skip
      have hF := hF.trans (if_pos c16)
      refine lv_tableIn (tgt := 79) (off := 67) hx hb dX7_guard_12 (by rw [c16]; decide) (by rw [c16]; decide) (by rw [c16]; rfl) (by decide) ?_
      refine lv_aload_n hx hb dX7_guard_79 rfl (lv_at hl 0 rfl) ?_
      refine km_get (ci := 7) (C := RX7) (T := TX7) (N := 9) (t := 0) (i := 0) hx hb hts fi_X7_guard_X7 hown hK hw (by decide) (by decide) rfl rfl 2 (by decide) (hts (.fieldLink RX7 25 "WrongWord" "gate" "LWrongWord$Gate;") ow_X7_guard_25) rfl dX7_guard_80 ?_
      refine lv_iload_n hx hb dX7_guard_83 rfl (lv_at hl 1 rfl) ?_
      have hs17 : g_X2_hoursOf v 0 a1 ≠ none := fun q => hs (hF.trans (kb_n q _))
      refine km_cI (As := [.int a1]) (rest := []) (n := 1) (q := (RX2, TX2, 8)) (ci := 2) (t := 6) (i := 0) ⟨hx, hb, hml, hown, hts⟩ (d_X2_hoursOf l E Z v 0 (by decide) a1 hs17) gX7_guard_X2_hoursOf rfl hV_X2_hoursOf ⟨Nat.le_of_ble_eq_true rfl, Nat.le_of_ble_eq_true rfl⟩ hK hw (by decide) (by decide) rfl rfl rfl hl.1 rfl (Nat.le_of_ble_eq_true rfl) dX7_guard_84 rfl rfl (fun r18 v19 H locs hp hw => ?_)
      obtain ⟨hp, rfl⟩ := hp
      have hF := hF.trans (kb_some hp _)
      exact hret _ _ _ _ _ _ hw dX7_guard_87 ⟨hF, rfl⟩
    have hF := hF.trans (if_neg c16)
    have nc5 : ¬ Int32.toInt a2 = 0 := fun q => c5 (Int32.toInt_inj.mp (q.trans (by decide)))
    have nc7 : ¬ Int32.toInt a2 = 1 := fun q => c7 (Int32.toInt_inj.mp (q.trans (by decide)))
    have nc9 : ¬ Int32.toInt a2 = 2 := fun q => c9 (Int32.toInt_inj.mp (q.trans (by decide)))
    have nc16 : ¬ Int32.toInt a2 = 3 := fun q => c16 (Int32.toInt_inj.mp (q.trans (by decide)))
    refine lv_tableOut (tgt := 88) hx hb dX7_guard_12 (by omega) (by decide) ?_
    refine lv_ldc (v := (-1000001)) hx hb hown (hts (.constant RX7 59 (-1000001)) ow_X7_guard_59) dX7_guard_88 ?_
    exact hret _ _ _ _ _ _ hw dX7_guard_90 ⟨hF, rfl⟩
  · skip
    have hF := hF.trans (if_pos c4)
    refine lv_ldc (v := (-1000001)) hx hb hown (hts (.constant RX7 59 (-1000001)) ow_X7_guard_59) dX7_guard_8 ?_
    exact hret _ _ _ _ _ _ hw dX7_guard_10 ⟨hF, rfl⟩
abbrev rmX7_tried : Room := { frames := 0, cells := 0, slots := 0, locals := 0 }
def g_X7_tried (v : Mm) (a1 : Int32) (a2 : Int32) : Option (Int32) := if a1 < 0 then (some ((-1000001))) else (if a1 < v 10 0 7 then (if a2 = 0 then (if a1 < 0 ∨ 9 ≤ Int32.toNatClampNeg a1 then none else (some (v 12 0 (Int32.toNatClampNeg a1)))) else (if a2 = 1 then (if a1 < 0 ∨ 9 ≤ Int32.toNatClampNeg a1 then none else (some (v 13 0 (Int32.toNatClampNeg a1)))) else (if a2 = 2 then (if a1 < 0 ∨ 9 ≤ Int32.toNatClampNeg a1 then none else (some (v 14 0 (Int32.toNatClampNeg a1)))) else (some ((-1000001)))))) else (some ((-1000001))))
set_option maxHeartbeats 4000000 in
set_option maxRecDepth 100000 in
theorem d_X7_tried (l : Launch) (E : kq_T) (Z : km_Z) (v : Mm) (a1 : Int32) (a2 : Int32) (hs : g_X7_tried v a1 a2 ≠ none) : km_I l E Z cntX yX7_tried wsX7_tried rmX7_tried [.ref (Z.1 0 0), .int a1, .int a2] v (fun r v1 => g_X7_tried v a1 a2 = some r ∧ v = v1) := by
  refine km_goI (cc := cX7_tried) (maxL := 3) (by decide) rfl (Nat.le_of_ble_eq_true rfl) rfl rfl rfl ?_
  intro p e s m below meth c A ls Q C hK hw hl hret
  obtain ⟨hx, hb, hml, hown, hts, -, -, -⟩ := C
  have hown : s.vm.findClass RX7 = some m.cls := hown
  have hl : lv_has ls 3 [(0, .ref (Z.1 0 0)), (1, .int a1), (2, .int a2)] := hl
  have hF := g_X7_tried.eq_1 v a1 a2
  refine lv_iload_n hx hb dX7_tried_0 rfl (lv_at hl 1 rfl) ?_
  refine lv_if_lt (tgt := 18) hx hb dX7_tried_1 (by decide) (fun c1 => ?_) (fun c1 => ?_)
  · skip
    have hF := hF.trans (if_pos c1)
    refine lv_ldc (v := (-1000001)) hx hb hown (hts (.constant RX7 59 (-1000001)) ow_X7_tried_59) dX7_tried_18 ?_
    exact hret _ _ _ _ _ _ hw dX7_tried_20 ⟨hF, rfl⟩
  · skip
    have hF := hF.trans (if_neg c1)
    refine lv_iload_n hx hb dX7_tried_4 rfl (lv_at hl 1 rfl) ?_
    refine lv_aload_n hx hb dX7_tried_5 rfl (lv_at hl 0 rfl) ?_
    refine km_get (ci := 7) (C := RX7) (T := TX7) (N := 9) (t := 0) (i := 0) hx hb hts fi_X7_tried_X7 hown hK hw (by decide) (by decide) rfl rfl 2 (by decide) (hts (.fieldLink RX7 25 "WrongWord" "gate" "LWrongWord$Gate;") ow_X7_tried_25) rfl dX7_tried_6 ?_
    refine km_get (ci := 2) (C := RX2) (T := TX2) (N := 8) (t := 6) (i := 0) hx hb hts fi_X7_tried_X2 hown hK hw (by decide) (by decide) rfl rfl 3 (by decide) (hts (.fieldLink RX7 137 "WrongWord$Gate" "now" "LWrongWord$Moment;") ow_X7_tried_137) rfl dX7_tried_9 ?_
    refine km_get (ci := 4) (C := RX4) (T := TX4) (N := 8) (t := 10) (i := 0) hx hb hts fi_X7_tried_X4 hown hK hw (by decide) (by decide) rfl rfl 7 (by decide) (hts (.fieldLink RX7 162 "WrongWord$Moment" "tries" "I") ow_X7_tried_162) rfl dX7_tried_12 ?_
    refine lv_icmp_lt (tgt := 21) hx hb dX7_tried_15 (by decide) (fun c2 => ?_) (fun c2 => ?_)
    · skip
      have hF := hF.trans (if_pos c2)
      refine lv_iload_n hx hb dX7_tried_21 rfl (lv_at hl 2 rfl) ?_
      by_cases c3 : a2 = 0
      · skip
        have hF := hF.trans (if_pos c3)
        refine lv_tableIn (tgt := 48) (off := 26) hx hb dX7_tried_22 (by rw [c3]; decide) (by rw [c3]; decide) (by rw [c3]; rfl) (by decide) ?_
        refine lv_aload_n hx hb dX7_tried_48 rfl (lv_at hl 0 rfl) ?_
        refine km_get (ci := 7) (C := RX7) (T := TX7) (N := 9) (t := 0) (i := 0) hx hb hts fi_X7_tried_X7 hown hK hw (by decide) (by decide) rfl rfl 2 (by decide) (hts (.fieldLink RX7 25 "WrongWord" "gate" "LWrongWord$Gate;") ow_X7_tried_25) rfl dX7_tried_49 ?_
        refine km_get (ci := 2) (C := RX2) (T := TX2) (N := 8) (t := 6) (i := 0) hx hb hts fi_X7_tried_X2 hown hK hw (by decide) (by decide) rfl rfl 3 (by decide) (hts (.fieldLink RX7 137 "WrongWord$Gate" "now" "LWrongWord$Moment;") ow_X7_tried_137) rfl dX7_tried_52 ?_
        refine km_get (ci := 4) (C := RX4) (T := TX4) (N := 8) (t := 10) (i := 0) hx hb hts fi_X7_tried_X4 hown hK hw (by decide) (by decide) rfl rfl 1 (by decide) (hts (.fieldLink RX7 218 "WrongWord$Moment" "triedWord" "[I") ow_X7_tried_218) rfl dX7_tried_55 ?_
        refine lv_iload_n hx hb dX7_tried_58 rfl (lv_at hl 1 rfl) ?_
        have hb4 : ¬ (a1 < 0 ∨ 9 ≤ Int32.toNatClampNeg a1) := fun q => hs (hF.trans (if_pos q))
        have hF := hF.trans (if_neg hb4)
        refine km_iald (t := 12) (i := 0) hx hb hK hw (by decide) (by decide) rfl hb4 dX7_tried_59 ?_
        exact hret _ _ _ _ _ _ hw dX7_tried_60 ⟨hF, rfl⟩
      have hF := hF.trans (if_neg c3)
      by_cases c5 : a2 = 1
      · skip
        have hF := hF.trans (if_pos c5)
        refine lv_tableIn (tgt := 61) (off := 39) hx hb dX7_tried_22 (by rw [c5]; decide) (by rw [c5]; decide) (by rw [c5]; rfl) (by decide) ?_
        refine lv_aload_n hx hb dX7_tried_61 rfl (lv_at hl 0 rfl) ?_
        refine km_get (ci := 7) (C := RX7) (T := TX7) (N := 9) (t := 0) (i := 0) hx hb hts fi_X7_tried_X7 hown hK hw (by decide) (by decide) rfl rfl 2 (by decide) (hts (.fieldLink RX7 25 "WrongWord" "gate" "LWrongWord$Gate;") ow_X7_tried_25) rfl dX7_tried_62 ?_
        refine km_get (ci := 2) (C := RX2) (T := TX2) (N := 8) (t := 6) (i := 0) hx hb hts fi_X7_tried_X2 hown hK hw (by decide) (by decide) rfl rfl 3 (by decide) (hts (.fieldLink RX7 137 "WrongWord$Gate" "now" "LWrongWord$Moment;") ow_X7_tried_137) rfl dX7_tried_65 ?_
        refine km_get (ci := 4) (C := RX4) (T := TX4) (N := 8) (t := 10) (i := 0) hx hb hts fi_X7_tried_X4 hown hK hw (by decide) (by decide) rfl rfl 2 (by decide) (hts (.fieldLink RX7 221 "WrongWord$Moment" "triedGuard" "[I") ow_X7_tried_221) rfl dX7_tried_68 ?_
        refine lv_iload_n hx hb dX7_tried_71 rfl (lv_at hl 1 rfl) ?_
        have hb6 : ¬ (a1 < 0 ∨ 9 ≤ Int32.toNatClampNeg a1) := fun q => hs (hF.trans (if_pos q))
        have hF := hF.trans (if_neg hb6)
        refine km_iald (t := 13) (i := 0) hx hb hK hw (by decide) (by decide) rfl hb6 dX7_tried_72 ?_
        exact hret _ _ _ _ _ _ hw dX7_tried_73 ⟨hF, rfl⟩
      have hF := hF.trans (if_neg c5)
      by_cases c7 : a2 = 2
      · skip
        have hF := hF.trans (if_pos c7)
        refine lv_tableIn (tgt := 74) (off := 52) hx hb dX7_tried_22 (by rw [c7]; decide) (by rw [c7]; decide) (by rw [c7]; rfl) (by decide) ?_
        refine lv_aload_n hx hb dX7_tried_74 rfl (lv_at hl 0 rfl) ?_
        refine km_get (ci := 7) (C := RX7) (T := TX7) (N := 9) (t := 0) (i := 0) hx hb hts fi_X7_tried_X7 hown hK hw (by decide) (by decide) rfl rfl 2 (by decide) (hts (.fieldLink RX7 25 "WrongWord" "gate" "LWrongWord$Gate;") ow_X7_tried_25) rfl dX7_tried_75 ?_
        refine km_get (ci := 2) (C := RX2) (T := TX2) (N := 8) (t := 6) (i := 0) hx hb hts fi_X7_tried_X2 hown hK hw (by decide) (by decide) rfl rfl 3 (by decide) (hts (.fieldLink RX7 137 "WrongWord$Gate" "now" "LWrongWord$Moment;") ow_X7_tried_137) rfl dX7_tried_78 ?_
        refine km_get (ci := 4) (C := RX4) (T := TX4) (N := 8) (t := 10) (i := 0) hx hb hts fi_X7_tried_X4 hown hK hw (by decide) (by decide) rfl rfl 3 (by decide) (hts (.fieldLink RX7 224 "WrongWord$Moment" "triedTaken" "[I") ow_X7_tried_224) rfl dX7_tried_81 ?_
        refine lv_iload_n hx hb dX7_tried_84 rfl (lv_at hl 1 rfl) ?_
        have hb8 : ¬ (a1 < 0 ∨ 9 ≤ Int32.toNatClampNeg a1) := fun q => hs (hF.trans (if_pos q))
        have hF := hF.trans (if_neg hb8)
        refine km_iald (t := 14) (i := 0) hx hb hK hw (by decide) (by decide) rfl hb8 dX7_tried_85 ?_
        exact hret _ _ _ _ _ _ hw dX7_tried_86 ⟨hF, rfl⟩
      have hF := hF.trans (if_neg c7)
      have nc3 : ¬ Int32.toInt a2 = 0 := fun q => c3 (Int32.toInt_inj.mp (q.trans (by decide)))
      have nc5 : ¬ Int32.toInt a2 = 1 := fun q => c5 (Int32.toInt_inj.mp (q.trans (by decide)))
      have nc7 : ¬ Int32.toInt a2 = 2 := fun q => c7 (Int32.toInt_inj.mp (q.trans (by decide)))
      refine lv_tableOut (tgt := 87) hx hb dX7_tried_22 (by omega) (by decide) ?_
      refine lv_ldc (v := (-1000001)) hx hb hown (hts (.constant RX7 59 (-1000001)) ow_X7_tried_59) dX7_tried_87 ?_
      exact hret _ _ _ _ _ _ hw dX7_tried_89 ⟨hF, rfl⟩
    · skip
      have hF := hF.trans (if_neg c2)
      refine lv_ldc (v := (-1000001)) hx hb hown (hts (.constant RX7 59 (-1000001)) ow_X7_tried_59) dX7_tried_18 ?_
      exact hret _ _ _ _ _ _ hw dX7_tried_20 ⟨hF, rfl⟩
abbrev rmX7_isAhead : Room := { frames := 0, cells := 0, slots := 0, locals := 0 }
def g_X7_isAhead (v : Mm) (a1 : Int32) : Option (Int32) := if a1 < 0 then (some 0) else (if 60 < a1 then (some 0) else (some 1))
set_option maxHeartbeats 4000000 in
set_option maxRecDepth 100000 in
theorem d_X7_isAhead (l : Launch) (E : kq_T) (Z : km_Z) (v : Mm) (a1 : Int32) (hs : g_X7_isAhead v a1 ≠ none) : km_I l E Z cntX yX7_isAhead wsX7_isAhead rmX7_isAhead [.ref (Z.1 0 0), .int a1] v (fun r v1 => (g_X7_isAhead v a1 = some r ∧ v = v1) ∧ (r = 0 ∨ r = 1)) := by
  refine km_goZ (cc := cX7_isAhead) (maxL := 2) (post := fun r v1 => g_X7_isAhead v a1 = some r ∧ v = v1) (by decide) rfl (Nat.le_of_ble_eq_true rfl) rfl rfl rfl ?_
  intro p e s m below meth c A ls Q C hK hw hl hret
  obtain ⟨hx, hb, hml, hown, hts, -, -, -⟩ := C
  have hown : s.vm.findClass RX7 = some m.cls := hown
  have hl : lv_has ls 2 [(0, .ref (Z.1 0 0)), (1, .int a1)] := hl
  have hF := g_X7_isAhead.eq_1 v a1
  refine lv_iload_n hx hb dX7_isAhead_0 rfl (lv_at hl 1 rfl) ?_
  refine lv_if_lt (tgt := 14) hx hb dX7_isAhead_1 (by decide) (fun c1 => ?_) (fun c1 => ?_)
  · skip
    have hF := hF.trans (if_pos c1)
    refine lv_iconst (v := 0) hx hb dX7_isAhead_14 (by decide) ?_
    exact hret _ _ _ _ _ _ hw dX7_isAhead_15 (Or.inl rfl) ⟨hF, rfl⟩
  · skip
    have hF := hF.trans (if_neg c1)
    refine lv_iload_n hx hb dX7_isAhead_4 rfl (lv_at hl 1 rfl) ?_
    refine lv_bipush (v := 60) hx hb dX7_isAhead_5 (by decide) ?_
    refine lv_icmp_gt (tgt := 14) hx hb dX7_isAhead_7 (by decide) (fun c2 => ?_) (fun c2 => ?_)
    · skip
      have hF := hF.trans (if_pos c2)
      refine lv_iconst (v := 0) hx hb dX7_isAhead_14 (by decide) ?_
      exact hret _ _ _ _ _ _ hw dX7_isAhead_15 (Or.inl rfl) ⟨hF, rfl⟩
    · skip
      have hF := hF.trans (if_neg c2)
      refine lv_iconst (v := 1) hx hb dX7_isAhead_10 (by decide) ?_
      refine lv_goto (tgt := 15) hx hb dX7_isAhead_11 (by decide) ?_
      exact hret _ _ _ _ _ _ hw dX7_isAhead_15 (Or.inr rfl) ⟨hF, rfl⟩
abbrev rmX7_secret : Room := { frames := 3, cells := 0, slots := 0, locals := 66 }
def g_X7_secret (v : Mm) (a1 : Int32) : Option (Int32) := Option.bind (g_X7_noGate v) (fun r2 => if r2 = 0 then (Option.bind (g_X7_isAhead v a1) (fun r6 => if r6 = 0 then (some ((-1000001))) else (Option.bind (g_X2_secretIn v 0 a1) (fun r10 => some r10)))) else (some ((-1000002))))
set_option maxHeartbeats 4000000 in
set_option maxRecDepth 100000 in
theorem d_X7_secret (l : Launch) (E : kq_T) (Z : km_Z) (v : Mm) (a1 : Int32) (hs : g_X7_secret v a1 ≠ none) : km_I l E Z cntX yX7_secret wsX7_secret rmX7_secret [.ref (Z.1 0 0), .int a1] v (fun r v1 => g_X7_secret v a1 = some r ∧ v = v1) := by
  refine km_goI (cc := cX7_secret) (maxL := 2) (by decide) rfl (Nat.le_of_ble_eq_true rfl) rfl rfl rfl ?_
  intro p e s m below meth c A ls Q C hK hw hl hret
  obtain ⟨hx, hb, hml, hown, hts, -, -, -⟩ := C
  have hown : s.vm.findClass RX7 = some m.cls := hown
  have hl : lv_has ls 2 [(0, .ref (Z.1 0 0)), (1, .int a1)] := hl
  have hF := g_X7_secret.eq_1 v a1
  refine lv_aload_n hx hb dX7_secret_0 rfl (lv_at hl 0 rfl) ?_
  have hs1 : g_X7_noGate v ≠ none := fun q => hs (hF.trans (kb_n q _))
  refine km_cI (As := []) (rest := []) (n := 0) (q := (RX7, TX7, 9)) (ci := 7) (t := 0) (i := 0) ⟨hx, hb, hml, hown, hts⟩ (d_X7_noGate l E Z v  hs1) gX7_secret_X7_noGate rfl hV_X7_noGate ⟨Nat.le_of_ble_eq_true rfl, Nat.le_of_ble_eq_true rfl⟩ hK hw (by decide) (by decide) rfl rfl rfl hl.1 rfl (Nat.le_of_ble_eq_true rfl) dX7_secret_1 rfl rfl (fun r2 v3 H locs hp hw => ?_)
  obtain ⟨hp, hzr2⟩ := hp
  obtain ⟨hp, rfl⟩ := hp
  have hF := hF.trans (kb_some hp _)
  refine lv_if_eq (tgt := 10) hx hb dX7_secret_4 (by decide) (fun c4 => ?_) (fun c4 => ?_)
  · skip
    have hF := hF.trans (if_pos c4)
    refine lv_aload_n hx hb dX7_secret_10 rfl (lv_at hl 0 rfl) ?_
    refine lv_iload_n hx hb dX7_secret_11 rfl (lv_at hl 1 rfl) ?_
    have hs5 : g_X7_isAhead v a1 ≠ none := fun q => hs (hF.trans (kb_n q _))
    refine km_cI (As := [.int a1]) (rest := []) (n := 1) (q := (RX7, TX7, 9)) (ci := 7) (t := 0) (i := 0) ⟨hx, hb, hml, hown, hts⟩ (d_X7_isAhead l E Z v a1 hs5) gX7_secret_X7_isAhead rfl hV_X7_isAhead ⟨Nat.le_of_ble_eq_true rfl, Nat.le_of_ble_eq_true rfl⟩ hK hw (by decide) (by decide) rfl rfl rfl hl.1 rfl (Nat.le_of_ble_eq_true rfl) dX7_secret_12 rfl rfl (fun r6 v7 H locs hp hw => ?_)
    obtain ⟨hp, hzr6⟩ := hp
    obtain ⟨hp, rfl⟩ := hp
    have hF := hF.trans (kb_some hp _)
    refine lv_if_eq (tgt := 29) hx hb dX7_secret_15 (by decide) (fun c8 => ?_) (fun c8 => ?_)
    · skip
      have hF := hF.trans (if_pos c8)
      refine lv_ldc (v := (-1000001)) hx hb hown (hts (.constant RX7 59 (-1000001)) ow_X7_secret_59) dX7_secret_29 ?_
      exact hret _ _ _ _ _ _ hw dX7_secret_31 ⟨hF, rfl⟩
    · skip
      have hF := hF.trans (if_neg c8)
      refine lv_aload_n hx hb dX7_secret_18 rfl (lv_at hl 0 rfl) ?_
      refine km_get (ci := 7) (C := RX7) (T := TX7) (N := 9) (t := 0) (i := 0) hx hb hts fi_X7_secret_X7 hown hK hw (by decide) (by decide) rfl rfl 2 (by decide) (hts (.fieldLink RX7 25 "WrongWord" "gate" "LWrongWord$Gate;") ow_X7_secret_25) rfl dX7_secret_19 ?_
      refine lv_iload_n hx hb dX7_secret_22 rfl (lv_at hl 1 rfl) ?_
      have hs9 : g_X2_secretIn v 0 a1 ≠ none := fun q => hs (hF.trans (kb_n q _))
      refine km_cI (As := [.int a1]) (rest := []) (n := 1) (q := (RX2, TX2, 8)) (ci := 2) (t := 6) (i := 0) ⟨hx, hb, hml, hown, hts⟩ (d_X2_secretIn l E Z v 0 (by decide) a1 hs9) gX7_secret_X2_secretIn rfl hV_X2_secretIn ⟨Nat.le_of_ble_eq_true rfl, Nat.le_of_ble_eq_true rfl⟩ hK hw (by decide) (by decide) rfl rfl rfl hl.1 rfl (Nat.le_of_ble_eq_true rfl) dX7_secret_23 rfl rfl (fun r10 v11 H locs hp hw => ?_)
      obtain ⟨hp, rfl⟩ := hp
      have hF := hF.trans (kb_some hp _)
      refine lv_goto (tgt := 31) hx hb dX7_secret_26 (by decide) ?_
      exact hret _ _ _ _ _ _ hw dX7_secret_31 ⟨hF, rfl⟩
  · skip
    have hF := hF.trans (if_neg c4)
    refine lv_ldc (v := (-1000002)) hx hb hown (hts (.constant RX7 136 (-1000002)) ow_X7_secret_136) dX7_secret_7 ?_
    exact hret _ _ _ _ _ _ hw dX7_secret_9 ⟨hF, rfl⟩
abbrev rmX7_taken : Room := { frames := 4, cells := 0, slots := 0, locals := 96 }
def g_X7_taken (v : Mm) (a1 : Int32) (a2 : Int32) (a3 : Int32) : Option (Int32) := Option.bind (g_X7_isWord v a1) (fun r2 => if r2 = 0 then (some ((-1000001))) else (Option.bind (g_X7_isHour v a2) (fun r6 => if r6 = 0 then (some ((-1000001))) else (Option.bind (g_X7_isAhead v a3) (fun r10 => if r10 = 0 then (some ((-1000001))) else (Option.bind (g_X2_catches v 0 a1 a2 a3) (fun r14 => Option.bind (g_X7_bit v r14) (fun r17 => some r17))))))))
set_option maxHeartbeats 4000000 in
set_option maxRecDepth 100000 in
theorem d_X7_taken (l : Launch) (E : kq_T) (Z : km_Z) (v : Mm) (a1 : Int32) (a2 : Int32) (a3 : Int32) (hs : g_X7_taken v a1 a2 a3 ≠ none) : km_I l E Z cntX yX7_taken wsX7_taken rmX7_taken [.ref (Z.1 0 0), .int a1, .int a2, .int a3] v (fun r v1 => g_X7_taken v a1 a2 a3 = some r ∧ v = v1) := by
  refine km_goI (cc := cX7_taken) (maxL := 4) (by decide) rfl (Nat.le_of_ble_eq_true rfl) rfl rfl rfl ?_
  intro p e s m below meth c A ls Q C hK hw hl hret
  obtain ⟨hx, hb, hml, hown, hts, -, -, -⟩ := C
  have hown : s.vm.findClass RX7 = some m.cls := hown
  have hl : lv_has ls 4 [(0, .ref (Z.1 0 0)), (1, .int a1), (2, .int a2), (3, .int a3)] := hl
  have hF := g_X7_taken.eq_1 v a1 a2 a3
  refine lv_aload_n hx hb dX7_taken_0 rfl (lv_at hl 0 rfl) ?_
  refine lv_iload_n hx hb dX7_taken_1 rfl (lv_at hl 1 rfl) ?_
  have hs1 : g_X7_isWord v a1 ≠ none := fun q => hs (hF.trans (kb_n q _))
  refine km_cI (As := [.int a1]) (rest := []) (n := 1) (q := (RX7, TX7, 9)) (ci := 7) (t := 0) (i := 0) ⟨hx, hb, hml, hown, hts⟩ (d_X7_isWord l E Z v a1 hs1) gX7_taken_X7_isWord rfl hV_X7_isWord ⟨Nat.le_of_ble_eq_true rfl, Nat.le_of_ble_eq_true rfl⟩ hK hw (by decide) (by decide) rfl rfl rfl hl.1 rfl (Nat.le_of_ble_eq_true rfl) dX7_taken_2 rfl rfl (fun r2 v3 H locs hp hw => ?_)
  obtain ⟨hp, hzr2⟩ := hp
  obtain ⟨hp, rfl⟩ := hp
  have hF := hF.trans (kb_some hp _)
  refine lv_if_eq (tgt := 24) hx hb dX7_taken_5 (by decide) (fun c4 => ?_) (fun c4 => ?_)
  · skip
    have hF := hF.trans (if_pos c4)
    refine lv_ldc (v := (-1000001)) hx hb hown (hts (.constant RX7 59 (-1000001)) ow_X7_taken_59) dX7_taken_24 ?_
    exact hret _ _ _ _ _ _ hw dX7_taken_26 ⟨hF, rfl⟩
  · skip
    have hF := hF.trans (if_neg c4)
    refine lv_aload_n hx hb dX7_taken_8 rfl (lv_at hl 0 rfl) ?_
    refine lv_iload_n hx hb dX7_taken_9 rfl (lv_at hl 2 rfl) ?_
    have hs5 : g_X7_isHour v a2 ≠ none := fun q => hs (hF.trans (kb_n q _))
    refine km_cI (As := [.int a2]) (rest := []) (n := 1) (q := (RX7, TX7, 9)) (ci := 7) (t := 0) (i := 0) ⟨hx, hb, hml, hown, hts⟩ (d_X7_isHour l E Z v a2 hs5) gX7_taken_X7_isHour rfl hV_X7_isHour ⟨Nat.le_of_ble_eq_true rfl, Nat.le_of_ble_eq_true rfl⟩ hK hw (by decide) (by decide) rfl rfl rfl hl.1 rfl (Nat.le_of_ble_eq_true rfl) dX7_taken_10 rfl rfl (fun r6 v7 H locs hp hw => ?_)
    obtain ⟨hp, hzr6⟩ := hp
    obtain ⟨hp, rfl⟩ := hp
    have hF := hF.trans (kb_some hp _)
    refine lv_if_eq (tgt := 24) hx hb dX7_taken_13 (by decide) (fun c8 => ?_) (fun c8 => ?_)
    · skip
      have hF := hF.trans (if_pos c8)
      refine lv_ldc (v := (-1000001)) hx hb hown (hts (.constant RX7 59 (-1000001)) ow_X7_taken_59) dX7_taken_24 ?_
      exact hret _ _ _ _ _ _ hw dX7_taken_26 ⟨hF, rfl⟩
    · skip
      have hF := hF.trans (if_neg c8)
      refine lv_aload_n hx hb dX7_taken_16 rfl (lv_at hl 0 rfl) ?_
      refine lv_iload_n hx hb dX7_taken_17 rfl (lv_at hl 3 rfl) ?_
      have hs9 : g_X7_isAhead v a3 ≠ none := fun q => hs (hF.trans (kb_n q _))
      refine km_cI (As := [.int a3]) (rest := []) (n := 1) (q := (RX7, TX7, 9)) (ci := 7) (t := 0) (i := 0) ⟨hx, hb, hml, hown, hts⟩ (d_X7_isAhead l E Z v a3 hs9) gX7_taken_X7_isAhead rfl hV_X7_isAhead ⟨Nat.le_of_ble_eq_true rfl, Nat.le_of_ble_eq_true rfl⟩ hK hw (by decide) (by decide) rfl rfl rfl hl.1 rfl (Nat.le_of_ble_eq_true rfl) dX7_taken_18 rfl rfl (fun r10 v11 H locs hp hw => ?_)
      obtain ⟨hp, hzr10⟩ := hp
      obtain ⟨hp, rfl⟩ := hp
      have hF := hF.trans (kb_some hp _)
      refine lv_if_ne (tgt := 27) hx hb dX7_taken_21 (by decide) (fun c12 => ?_) (fun c12 => ?_)
      · skip
        have hF := hF.trans (if_neg c12)
        refine lv_aload_n hx hb dX7_taken_27 rfl (lv_at hl 0 rfl) ?_
        refine km_get (ci := 7) (C := RX7) (T := TX7) (N := 9) (t := 0) (i := 0) hx hb hts fi_X7_taken_X7 hown hK hw (by decide) (by decide) rfl rfl 2 (by decide) (hts (.fieldLink RX7 25 "WrongWord" "gate" "LWrongWord$Gate;") ow_X7_taken_25) rfl dX7_taken_28 ?_
        refine lv_iload_n hx hb dX7_taken_31 rfl (lv_at hl 1 rfl) ?_
        refine lv_iload_n hx hb dX7_taken_32 rfl (lv_at hl 2 rfl) ?_
        refine lv_iload_n hx hb dX7_taken_33 rfl (lv_at hl 3 rfl) ?_
        have hs13 : g_X2_catches v 0 a1 a2 a3 ≠ none := fun q => hs (hF.trans (kb_n q _))
        refine km_cI (As := [.int a1, .int a2, .int a3]) (rest := []) (n := 3) (q := (RX2, TX2, 8)) (ci := 2) (t := 6) (i := 0) ⟨hx, hb, hml, hown, hts⟩ (d_X2_catches l E Z v 0 (by decide) a1 a2 a3 hs13) gX7_taken_X2_catches rfl hV_X2_catches ⟨Nat.le_of_ble_eq_true rfl, Nat.le_of_ble_eq_true rfl⟩ hK hw (by decide) (by decide) rfl rfl rfl hl.1 rfl (Nat.le_of_ble_eq_true rfl) dX7_taken_34 rfl rfl (fun r14 v15 H locs hp hw => ?_)
        obtain ⟨hp, hzr14⟩ := hp
        obtain ⟨hp, rfl⟩ := hp
        have hF := hF.trans (kb_some hp _)
        have hs16 : g_X7_bit v r14 ≠ none := fun q => hs (hF.trans (kb_n q _))
        refine km_cS (As := [.int r14]) (rest := []) (n := 1) ⟨hx, hb, hml, hown, hts⟩ (d_X7_bit l E Z v r14 hs16) gX7_taken_X7_bit rfl hV_X7_bit ⟨Nat.le_of_ble_eq_true rfl, Nat.le_of_ble_eq_true rfl⟩ hK hw rfl hl.1 rfl (Nat.le_of_ble_eq_true rfl) dX7_taken_37 rfl rfl (fun r17 v18 H locs hp hw => ?_)
        obtain ⟨hp, rfl⟩ := hp
        have hF := hF.trans (kb_some hp _)
        exact hret _ _ _ _ _ _ hw dX7_taken_40 ⟨hF, rfl⟩
      · skip
        have hF := hF.trans (if_pos c12)
        refine lv_ldc (v := (-1000001)) hx hb hown (hts (.constant RX7 59 (-1000001)) ow_X7_taken_59) dX7_taken_24 ?_
        exact hret _ _ _ _ _ _ hw dX7_taken_26 ⟨hF, rfl⟩
abbrev rmX7_safe : Room := { frames := 5, cells := 0, slots := 0, locals := 120 }
def g_X7_safe (v : Mm) (a1 : Int32) (a2 : Int32) : Option (Int32) := Option.bind (g_X7_noGate v) (fun r2 => if r2 = 0 then (Option.bind (g_X7_isHour v a1) (fun r6 => if r6 = 0 then (some ((-1000001))) else (Option.bind (g_X7_isAhead v a2) (fun r10 => if r10 = 0 then (some ((-1000001))) else (Option.bind (g_X2_wordsIn v 0 a1 a2) (fun r14 => some r14)))))) else (some ((-1000002))))
set_option maxHeartbeats 4000000 in
set_option maxRecDepth 100000 in
theorem d_X7_safe (l : Launch) (E : kq_T) (Z : km_Z) (v : Mm) (a1 : Int32) (a2 : Int32) (hs : g_X7_safe v a1 a2 ≠ none) : km_I l E Z cntX yX7_safe wsX7_safe rmX7_safe [.ref (Z.1 0 0), .int a1, .int a2] v (fun r v1 => g_X7_safe v a1 a2 = some r ∧ v = v1) := by
  refine km_goI (cc := cX7_safe) (maxL := 3) (by decide) rfl (Nat.le_of_ble_eq_true rfl) rfl rfl rfl ?_
  intro p e s m below meth c A ls Q C hK hw hl hret
  obtain ⟨hx, hb, hml, hown, hts, -, -, -⟩ := C
  have hown : s.vm.findClass RX7 = some m.cls := hown
  have hl : lv_has ls 3 [(0, .ref (Z.1 0 0)), (1, .int a1), (2, .int a2)] := hl
  have hF := g_X7_safe.eq_1 v a1 a2
  refine lv_aload_n hx hb dX7_safe_0 rfl (lv_at hl 0 rfl) ?_
  have hs1 : g_X7_noGate v ≠ none := fun q => hs (hF.trans (kb_n q _))
  refine km_cI (As := []) (rest := []) (n := 0) (q := (RX7, TX7, 9)) (ci := 7) (t := 0) (i := 0) ⟨hx, hb, hml, hown, hts⟩ (d_X7_noGate l E Z v  hs1) gX7_safe_X7_noGate rfl hV_X7_noGate ⟨Nat.le_of_ble_eq_true rfl, Nat.le_of_ble_eq_true rfl⟩ hK hw (by decide) (by decide) rfl rfl rfl hl.1 rfl (Nat.le_of_ble_eq_true rfl) dX7_safe_1 rfl rfl (fun r2 v3 H locs hp hw => ?_)
  obtain ⟨hp, hzr2⟩ := hp
  obtain ⟨hp, rfl⟩ := hp
  have hF := hF.trans (kb_some hp _)
  refine lv_if_eq (tgt := 10) hx hb dX7_safe_4 (by decide) (fun c4 => ?_) (fun c4 => ?_)
  · skip
    have hF := hF.trans (if_pos c4)
    refine lv_aload_n hx hb dX7_safe_10 rfl (lv_at hl 0 rfl) ?_
    refine lv_iload_n hx hb dX7_safe_11 rfl (lv_at hl 1 rfl) ?_
    have hs5 : g_X7_isHour v a1 ≠ none := fun q => hs (hF.trans (kb_n q _))
    refine km_cI (As := [.int a1]) (rest := []) (n := 1) (q := (RX7, TX7, 9)) (ci := 7) (t := 0) (i := 0) ⟨hx, hb, hml, hown, hts⟩ (d_X7_isHour l E Z v a1 hs5) gX7_safe_X7_isHour rfl hV_X7_isHour ⟨Nat.le_of_ble_eq_true rfl, Nat.le_of_ble_eq_true rfl⟩ hK hw (by decide) (by decide) rfl rfl rfl hl.1 rfl (Nat.le_of_ble_eq_true rfl) dX7_safe_12 rfl rfl (fun r6 v7 H locs hp hw => ?_)
    obtain ⟨hp, hzr6⟩ := hp
    obtain ⟨hp, rfl⟩ := hp
    have hF := hF.trans (kb_some hp _)
    refine lv_if_eq (tgt := 38) hx hb dX7_safe_15 (by decide) (fun c8 => ?_) (fun c8 => ?_)
    · skip
      have hF := hF.trans (if_pos c8)
      refine lv_ldc (v := (-1000001)) hx hb hown (hts (.constant RX7 59 (-1000001)) ow_X7_safe_59) dX7_safe_38 ?_
      exact hret _ _ _ _ _ _ hw dX7_safe_40 ⟨hF, rfl⟩
    · skip
      have hF := hF.trans (if_neg c8)
      refine lv_aload_n hx hb dX7_safe_18 rfl (lv_at hl 0 rfl) ?_
      refine lv_iload_n hx hb dX7_safe_19 rfl (lv_at hl 2 rfl) ?_
      have hs9 : g_X7_isAhead v a2 ≠ none := fun q => hs (hF.trans (kb_n q _))
      refine km_cI (As := [.int a2]) (rest := []) (n := 1) (q := (RX7, TX7, 9)) (ci := 7) (t := 0) (i := 0) ⟨hx, hb, hml, hown, hts⟩ (d_X7_isAhead l E Z v a2 hs9) gX7_safe_X7_isAhead rfl hV_X7_isAhead ⟨Nat.le_of_ble_eq_true rfl, Nat.le_of_ble_eq_true rfl⟩ hK hw (by decide) (by decide) rfl rfl rfl hl.1 rfl (Nat.le_of_ble_eq_true rfl) dX7_safe_20 rfl rfl (fun r10 v11 H locs hp hw => ?_)
      obtain ⟨hp, hzr10⟩ := hp
      obtain ⟨hp, rfl⟩ := hp
      have hF := hF.trans (kb_some hp _)
      refine lv_if_eq (tgt := 38) hx hb dX7_safe_23 (by decide) (fun c12 => ?_) (fun c12 => ?_)
      · skip
        have hF := hF.trans (if_pos c12)
        refine lv_ldc (v := (-1000001)) hx hb hown (hts (.constant RX7 59 (-1000001)) ow_X7_safe_59) dX7_safe_38 ?_
        exact hret _ _ _ _ _ _ hw dX7_safe_40 ⟨hF, rfl⟩
      · skip
        have hF := hF.trans (if_neg c12)
        refine lv_aload_n hx hb dX7_safe_26 rfl (lv_at hl 0 rfl) ?_
        refine km_get (ci := 7) (C := RX7) (T := TX7) (N := 9) (t := 0) (i := 0) hx hb hts fi_X7_safe_X7 hown hK hw (by decide) (by decide) rfl rfl 2 (by decide) (hts (.fieldLink RX7 25 "WrongWord" "gate" "LWrongWord$Gate;") ow_X7_safe_25) rfl dX7_safe_27 ?_
        refine lv_iload_n hx hb dX7_safe_30 rfl (lv_at hl 1 rfl) ?_
        refine lv_iload_n hx hb dX7_safe_31 rfl (lv_at hl 2 rfl) ?_
        have hs13 : g_X2_wordsIn v 0 a1 a2 ≠ none := fun q => hs (hF.trans (kb_n q _))
        refine km_cI (As := [.int a1, .int a2]) (rest := []) (n := 2) (q := (RX2, TX2, 8)) (ci := 2) (t := 6) (i := 0) ⟨hx, hb, hml, hown, hts⟩ (d_X2_wordsIn l E Z v 0 (by decide) a1 a2 hs13) gX7_safe_X2_wordsIn rfl hV_X2_wordsIn ⟨Nat.le_of_ble_eq_true rfl, Nat.le_of_ble_eq_true rfl⟩ hK hw (by decide) (by decide) rfl rfl rfl hl.1 rfl (Nat.le_of_ble_eq_true rfl) dX7_safe_32 rfl rfl (fun r14 v15 H locs hp hw => ?_)
        obtain ⟨hp, rfl⟩ := hp
        have hF := hF.trans (kb_some hp _)
        refine lv_goto (tgt := 40) hx hb dX7_safe_35 (by decide) ?_
        exact hret _ _ _ _ _ _ hw dX7_safe_40 ⟨hF, rfl⟩
  · skip
    have hF := hF.trans (if_neg c4)
    refine lv_ldc (v := (-1000002)) hx hb hown (hts (.constant RX7 136 (-1000002)) ow_X7_safe_136) dX7_safe_7 ?_
    exact hret _ _ _ _ _ _ hw dX7_safe_9 ⟨hF, rfl⟩
abbrev rmX7_areWords : Room := { frames := 0, cells := 0, slots := 0, locals := 0 }
def g_X7_areWords (v : Mm) (a1 : Int32) : Option (Int32) := if a1 < 0 then (some 0) else (if (1 : Int32) <<< ((v 6 0 6) &&& 31) ≤ a1 then (some 0) else (some 1))
set_option maxHeartbeats 4000000 in
set_option maxRecDepth 100000 in
theorem d_X7_areWords (l : Launch) (E : kq_T) (Z : km_Z) (v : Mm) (a1 : Int32) (hs : g_X7_areWords v a1 ≠ none) : km_I l E Z cntX yX7_areWords wsX7_areWords rmX7_areWords [.ref (Z.1 0 0), .int a1] v (fun r v1 => (g_X7_areWords v a1 = some r ∧ v = v1) ∧ (r = 0 ∨ r = 1)) := by
  refine km_goZ (cc := cX7_areWords) (maxL := 2) (post := fun r v1 => g_X7_areWords v a1 = some r ∧ v = v1) (by decide) rfl (Nat.le_of_ble_eq_true rfl) rfl rfl rfl ?_
  intro p e s m below meth c A ls Q C hK hw hl hret
  obtain ⟨hx, hb, hml, hown, hts, -, -, -⟩ := C
  have hown : s.vm.findClass RX7 = some m.cls := hown
  have hl : lv_has ls 2 [(0, .ref (Z.1 0 0)), (1, .int a1)] := hl
  have hF := g_X7_areWords.eq_1 v a1
  refine lv_iload_n hx hb dX7_areWords_0 rfl (lv_at hl 1 rfl) ?_
  refine lv_if_lt (tgt := 21) hx hb dX7_areWords_1 (by decide) (fun c1 => ?_) (fun c1 => ?_)
  · skip
    have hF := hF.trans (if_pos c1)
    refine lv_iconst (v := 0) hx hb dX7_areWords_21 (by decide) ?_
    exact hret _ _ _ _ _ _ hw dX7_areWords_22 (Or.inl rfl) ⟨hF, rfl⟩
  · skip
    have hF := hF.trans (if_neg c1)
    refine lv_iload_n hx hb dX7_areWords_4 rfl (lv_at hl 1 rfl) ?_
    refine lv_iconst (v := 1) hx hb dX7_areWords_5 (by decide) ?_
    refine lv_aload_n hx hb dX7_areWords_6 rfl (lv_at hl 0 rfl) ?_
    refine km_get (ci := 7) (C := RX7) (T := TX7) (N := 9) (t := 0) (i := 0) hx hb hts fi_X7_areWords_X7 hown hK hw (by decide) (by decide) rfl rfl 2 (by decide) (hts (.fieldLink RX7 25 "WrongWord" "gate" "LWrongWord$Gate;") ow_X7_areWords_25) rfl dX7_areWords_7 ?_
    refine km_get (ci := 2) (C := RX2) (T := TX2) (N := 8) (t := 6) (i := 0) hx hb hts fi_X7_areWords_X2 hown hK hw (by decide) (by decide) rfl rfl 6 (by decide) (hts (.fieldLink RX7 130 "WrongWord$Gate" "words" "I") ow_X7_areWords_130) rfl dX7_areWords_10 ?_
    refine lv_ishl hx hb dX7_areWords_13 ?_
    refine lv_icmp_ge (tgt := 21) hx hb dX7_areWords_14 (by decide) (fun c2 => ?_) (fun c2 => ?_)
    · skip
      have hF := hF.trans (if_pos c2)
      refine lv_iconst (v := 0) hx hb dX7_areWords_21 (by decide) ?_
      exact hret _ _ _ _ _ _ hw dX7_areWords_22 (Or.inl rfl) ⟨hF, rfl⟩
    · skip
      have hF := hF.trans (if_neg c2)
      refine lv_iconst (v := 1) hx hb dX7_areWords_17 (by decide) ?_
      refine lv_goto (tgt := 22) hx hb dX7_areWords_18 (by decide) ?_
      exact hret _ _ _ _ _ _ hw dX7_areWords_22 (Or.inr rfl) ⟨hF, rfl⟩
abbrev rmX7_open : Room := { frames := 6, cells := 0, slots := 0, locals := 144 }
def g_X7_open (v : Mm) (a1 : Int32) (a2 : Int32) : Option (Int32) := Option.bind (g_X7_noGate v) (fun r2 => if r2 = 0 then (Option.bind (g_X7_areWords v a1) (fun r6 => if r6 = 0 then (some ((-1000001))) else (Option.bind (g_X7_isAhead v a2) (fun r10 => if r10 = 0 then (some ((-1000001))) else (Option.bind (g_X2_hoursOpen v 0 a1 a2) (fun r14 => some r14)))))) else (some ((-1000002))))
set_option maxHeartbeats 4000000 in
set_option maxRecDepth 100000 in
theorem d_X7_open (l : Launch) (E : kq_T) (Z : km_Z) (v : Mm) (a1 : Int32) (a2 : Int32) (hs : g_X7_open v a1 a2 ≠ none) : km_I l E Z cntX yX7_open wsX7_open rmX7_open [.ref (Z.1 0 0), .int a1, .int a2] v (fun r v1 => g_X7_open v a1 a2 = some r ∧ v = v1) := by
  refine km_goI (cc := cX7_open) (maxL := 3) (by decide) rfl (Nat.le_of_ble_eq_true rfl) rfl rfl rfl ?_
  intro p e s m below meth c A ls Q C hK hw hl hret
  obtain ⟨hx, hb, hml, hown, hts, -, -, -⟩ := C
  have hown : s.vm.findClass RX7 = some m.cls := hown
  have hl : lv_has ls 3 [(0, .ref (Z.1 0 0)), (1, .int a1), (2, .int a2)] := hl
  have hF := g_X7_open.eq_1 v a1 a2
  refine lv_aload_n hx hb dX7_open_0 rfl (lv_at hl 0 rfl) ?_
  have hs1 : g_X7_noGate v ≠ none := fun q => hs (hF.trans (kb_n q _))
  refine km_cI (As := []) (rest := []) (n := 0) (q := (RX7, TX7, 9)) (ci := 7) (t := 0) (i := 0) ⟨hx, hb, hml, hown, hts⟩ (d_X7_noGate l E Z v  hs1) gX7_open_X7_noGate rfl hV_X7_noGate ⟨Nat.le_of_ble_eq_true rfl, Nat.le_of_ble_eq_true rfl⟩ hK hw (by decide) (by decide) rfl rfl rfl hl.1 rfl (Nat.le_of_ble_eq_true rfl) dX7_open_1 rfl rfl (fun r2 v3 H locs hp hw => ?_)
  obtain ⟨hp, hzr2⟩ := hp
  obtain ⟨hp, rfl⟩ := hp
  have hF := hF.trans (kb_some hp _)
  refine lv_if_eq (tgt := 10) hx hb dX7_open_4 (by decide) (fun c4 => ?_) (fun c4 => ?_)
  · skip
    have hF := hF.trans (if_pos c4)
    refine lv_aload_n hx hb dX7_open_10 rfl (lv_at hl 0 rfl) ?_
    refine lv_iload_n hx hb dX7_open_11 rfl (lv_at hl 1 rfl) ?_
    have hs5 : g_X7_areWords v a1 ≠ none := fun q => hs (hF.trans (kb_n q _))
    refine km_cI (As := [.int a1]) (rest := []) (n := 1) (q := (RX7, TX7, 9)) (ci := 7) (t := 0) (i := 0) ⟨hx, hb, hml, hown, hts⟩ (d_X7_areWords l E Z v a1 hs5) gX7_open_X7_areWords rfl hV_X7_areWords ⟨Nat.le_of_ble_eq_true rfl, Nat.le_of_ble_eq_true rfl⟩ hK hw (by decide) (by decide) rfl rfl rfl hl.1 rfl (Nat.le_of_ble_eq_true rfl) dX7_open_12 rfl rfl (fun r6 v7 H locs hp hw => ?_)
    obtain ⟨hp, hzr6⟩ := hp
    obtain ⟨hp, rfl⟩ := hp
    have hF := hF.trans (kb_some hp _)
    refine lv_if_eq (tgt := 38) hx hb dX7_open_15 (by decide) (fun c8 => ?_) (fun c8 => ?_)
    · skip
      have hF := hF.trans (if_pos c8)
      refine lv_ldc (v := (-1000001)) hx hb hown (hts (.constant RX7 59 (-1000001)) ow_X7_open_59) dX7_open_38 ?_
      exact hret _ _ _ _ _ _ hw dX7_open_40 ⟨hF, rfl⟩
    · skip
      have hF := hF.trans (if_neg c8)
      refine lv_aload_n hx hb dX7_open_18 rfl (lv_at hl 0 rfl) ?_
      refine lv_iload_n hx hb dX7_open_19 rfl (lv_at hl 2 rfl) ?_
      have hs9 : g_X7_isAhead v a2 ≠ none := fun q => hs (hF.trans (kb_n q _))
      refine km_cI (As := [.int a2]) (rest := []) (n := 1) (q := (RX7, TX7, 9)) (ci := 7) (t := 0) (i := 0) ⟨hx, hb, hml, hown, hts⟩ (d_X7_isAhead l E Z v a2 hs9) gX7_open_X7_isAhead rfl hV_X7_isAhead ⟨Nat.le_of_ble_eq_true rfl, Nat.le_of_ble_eq_true rfl⟩ hK hw (by decide) (by decide) rfl rfl rfl hl.1 rfl (Nat.le_of_ble_eq_true rfl) dX7_open_20 rfl rfl (fun r10 v11 H locs hp hw => ?_)
      obtain ⟨hp, hzr10⟩ := hp
      obtain ⟨hp, rfl⟩ := hp
      have hF := hF.trans (kb_some hp _)
      refine lv_if_eq (tgt := 38) hx hb dX7_open_23 (by decide) (fun c12 => ?_) (fun c12 => ?_)
      · skip
        have hF := hF.trans (if_pos c12)
        refine lv_ldc (v := (-1000001)) hx hb hown (hts (.constant RX7 59 (-1000001)) ow_X7_open_59) dX7_open_38 ?_
        exact hret _ _ _ _ _ _ hw dX7_open_40 ⟨hF, rfl⟩
      · skip
        have hF := hF.trans (if_neg c12)
        refine lv_aload_n hx hb dX7_open_26 rfl (lv_at hl 0 rfl) ?_
        refine km_get (ci := 7) (C := RX7) (T := TX7) (N := 9) (t := 0) (i := 0) hx hb hts fi_X7_open_X7 hown hK hw (by decide) (by decide) rfl rfl 2 (by decide) (hts (.fieldLink RX7 25 "WrongWord" "gate" "LWrongWord$Gate;") ow_X7_open_25) rfl dX7_open_27 ?_
        refine lv_iload_n hx hb dX7_open_30 rfl (lv_at hl 1 rfl) ?_
        refine lv_iload_n hx hb dX7_open_31 rfl (lv_at hl 2 rfl) ?_
        have hs13 : g_X2_hoursOpen v 0 a1 a2 ≠ none := fun q => hs (hF.trans (kb_n q _))
        refine km_cI (As := [.int a1, .int a2]) (rest := []) (n := 2) (q := (RX2, TX2, 8)) (ci := 2) (t := 6) (i := 0) ⟨hx, hb, hml, hown, hts⟩ (d_X2_hoursOpen l E Z v 0 (by decide) a1 a2 hs13) gX7_open_X2_hoursOpen rfl hV_X2_hoursOpen ⟨Nat.le_of_ble_eq_true rfl, Nat.le_of_ble_eq_true rfl⟩ hK hw (by decide) (by decide) rfl rfl rfl hl.1 rfl (Nat.le_of_ble_eq_true rfl) dX7_open_32 rfl rfl (fun r14 v15 H locs hp hw => ?_)
        obtain ⟨hp, rfl⟩ := hp
        have hF := hF.trans (kb_some hp _)
        refine lv_goto (tgt := 40) hx hb dX7_open_35 (by decide) ?_
        exact hret _ _ _ _ _ _ hw dX7_open_40 ⟨hF, rfl⟩
  · skip
    have hF := hF.trans (if_neg c4)
    refine lv_ldc (v := (-1000002)) hx hb hown (hts (.constant RX7 136 (-1000002)) ow_X7_open_136) dX7_open_7 ?_
    exact hret _ _ _ _ _ _ hw dX7_open_9 ⟨hF, rfl⟩
abbrev rmX7_next : Room := { frames := 4, cells := 0, slots := 0, locals := 88 }
def g_X7_next (v : Mm) (a1 : Int32) : Option (Int32) := Option.bind (g_X7_isWord v a1) (fun r2 => if r2 = 0 then (some ((-1000001))) else (Option.bind (g_X2_nightsUntil v 0 a1) (fun r6 => some r6)))
set_option maxHeartbeats 4000000 in
set_option maxRecDepth 100000 in
theorem d_X7_next (l : Launch) (E : kq_T) (Z : km_Z) (v : Mm) (a1 : Int32) (hs : g_X7_next v a1 ≠ none) : km_I l E Z cntX yX7_next wsX7_next rmX7_next [.ref (Z.1 0 0), .int a1] v (fun r v1 => g_X7_next v a1 = some r ∧ v = v1) := by
  refine km_goI (cc := cX7_next) (maxL := 2) (by decide) rfl (Nat.le_of_ble_eq_true rfl) rfl rfl rfl ?_
  intro p e s m below meth c A ls Q C hK hw hl hret
  obtain ⟨hx, hb, hml, hown, hts, -, -, -⟩ := C
  have hown : s.vm.findClass RX7 = some m.cls := hown
  have hl : lv_has ls 2 [(0, .ref (Z.1 0 0)), (1, .int a1)] := hl
  have hF := g_X7_next.eq_1 v a1
  refine lv_aload_n hx hb dX7_next_0 rfl (lv_at hl 0 rfl) ?_
  refine lv_iload_n hx hb dX7_next_1 rfl (lv_at hl 1 rfl) ?_
  have hs1 : g_X7_isWord v a1 ≠ none := fun q => hs (hF.trans (kb_n q _))
  refine km_cI (As := [.int a1]) (rest := []) (n := 1) (q := (RX7, TX7, 9)) (ci := 7) (t := 0) (i := 0) ⟨hx, hb, hml, hown, hts⟩ (d_X7_isWord l E Z v a1 hs1) gX7_next_X7_isWord rfl hV_X7_isWord ⟨Nat.le_of_ble_eq_true rfl, Nat.le_of_ble_eq_true rfl⟩ hK hw (by decide) (by decide) rfl rfl rfl hl.1 rfl (Nat.le_of_ble_eq_true rfl) dX7_next_2 rfl rfl (fun r2 v3 H locs hp hw => ?_)
  obtain ⟨hp, hzr2⟩ := hp
  obtain ⟨hp, rfl⟩ := hp
  have hF := hF.trans (kb_some hp _)
  refine lv_if_eq (tgt := 19) hx hb dX7_next_5 (by decide) (fun c4 => ?_) (fun c4 => ?_)
  · skip
    have hF := hF.trans (if_pos c4)
    refine lv_ldc (v := (-1000001)) hx hb hown (hts (.constant RX7 59 (-1000001)) ow_X7_next_59) dX7_next_19 ?_
    exact hret _ _ _ _ _ _ hw dX7_next_21 ⟨hF, rfl⟩
  · skip
    have hF := hF.trans (if_neg c4)
    refine lv_aload_n hx hb dX7_next_8 rfl (lv_at hl 0 rfl) ?_
    refine km_get (ci := 7) (C := RX7) (T := TX7) (N := 9) (t := 0) (i := 0) hx hb hts fi_X7_next_X7 hown hK hw (by decide) (by decide) rfl rfl 2 (by decide) (hts (.fieldLink RX7 25 "WrongWord" "gate" "LWrongWord$Gate;") ow_X7_next_25) rfl dX7_next_9 ?_
    refine lv_iload_n hx hb dX7_next_12 rfl (lv_at hl 1 rfl) ?_
    have hs5 : g_X2_nightsUntil v 0 a1 ≠ none := fun q => hs (hF.trans (kb_n q _))
    refine km_cI (As := [.int a1]) (rest := []) (n := 1) (q := (RX2, TX2, 8)) (ci := 2) (t := 6) (i := 0) ⟨hx, hb, hml, hown, hts⟩ (d_X2_nightsUntil l E Z v 0 (by decide) a1 hs5) gX7_next_X2_nightsUntil rfl hV_X2_nightsUntil ⟨Nat.le_of_ble_eq_true rfl, Nat.le_of_ble_eq_true rfl⟩ hK hw (by decide) (by decide) rfl rfl rfl hl.1 rfl (Nat.le_of_ble_eq_true rfl) dX7_next_13 rfl rfl (fun r6 v7 H locs hp hw => ?_)
    obtain ⟨hp, rfl⟩ := hp
    have hF := hF.trans (kb_some hp _)
    refine lv_goto (tgt := 21) hx hb dX7_next_16 (by decide) ?_
    exact hret _ _ _ _ _ _ hw dX7_next_21 ⟨hF, rfl⟩
abbrev rmX7_agree : Room := { frames := 4, cells := 0, slots := 0, locals := 95 }
def g_X7_agree (v : Mm)  : Option (Int32) := Option.bind (g_X7_noGate v) (fun r2 => if r2 = 0 then (Option.bind (g_X3_agreeing v 0) (fun r6 => some r6)) else (some ((-1000002))))
set_option maxHeartbeats 4000000 in
set_option maxRecDepth 100000 in
theorem d_X7_agree (l : Launch) (E : kq_T) (Z : km_Z) (v : Mm) (hs : g_X7_agree v ≠ none) : km_I l E Z cntX yX7_agree wsX7_agree rmX7_agree [.ref (Z.1 0 0)] v (fun r v1 => g_X7_agree v = some r ∧ v = v1) := by
  refine km_goI (cc := cX7_agree) (maxL := 1) (by decide) rfl (Nat.le_of_ble_eq_true rfl) rfl rfl rfl ?_
  intro p e s m below meth c A ls Q C hK hw hl hret
  obtain ⟨hx, hb, hml, hown, hts, -, -, -⟩ := C
  have hown : s.vm.findClass RX7 = some m.cls := hown
  have hl : lv_has ls 1 [(0, .ref (Z.1 0 0))] := hl
  have hF := g_X7_agree.eq_1 v 
  refine lv_aload_n hx hb dX7_agree_0 rfl (lv_at hl 0 rfl) ?_
  have hs1 : g_X7_noGate v ≠ none := fun q => hs (hF.trans (kb_n q _))
  refine km_cI (As := []) (rest := []) (n := 0) (q := (RX7, TX7, 9)) (ci := 7) (t := 0) (i := 0) ⟨hx, hb, hml, hown, hts⟩ (d_X7_noGate l E Z v  hs1) gX7_agree_X7_noGate rfl hV_X7_noGate ⟨Nat.le_of_ble_eq_true rfl, Nat.le_of_ble_eq_true rfl⟩ hK hw (by decide) (by decide) rfl rfl rfl hl.1 rfl (Nat.le_of_ble_eq_true rfl) dX7_agree_1 rfl rfl (fun r2 v3 H locs hp hw => ?_)
  obtain ⟨hp, hzr2⟩ := hp
  obtain ⟨hp, rfl⟩ := hp
  have hF := hF.trans (kb_some hp _)
  refine lv_if_eq (tgt := 12) hx hb dX7_agree_4 (by decide) (fun c4 => ?_) (fun c4 => ?_)
  · skip
    have hF := hF.trans (if_pos c4)
    refine lv_aload_n hx hb dX7_agree_12 rfl (lv_at hl 0 rfl) ?_
    refine km_get (ci := 7) (C := RX7) (T := TX7) (N := 9) (t := 0) (i := 0) hx hb hts fi_X7_agree_X7 hown hK hw (by decide) (by decide) rfl rfl 2 (by decide) (hts (.fieldLink RX7 25 "WrongWord" "gate" "LWrongWord$Gate;") ow_X7_agree_25) rfl dX7_agree_13 ?_
    have hs5 : g_X3_agreeing v 0 ≠ none := fun q => hs (hF.trans (kb_n q _))
    refine km_cSJ (As := [.ref (Z.1 6 0)]) (rest := []) (n := 1) ⟨hx, hb, hml, hown, hts⟩ (d_X3_agreeing l E Z v 0 (by decide) hs5) gX7_agree_X3_agreeing rfl hS_X3_agreeing ⟨Nat.le_of_ble_eq_true rfl, Nat.le_of_ble_eq_true rfl⟩ hK hw rfl hl.1 rfl (Nat.le_of_ble_eq_true rfl) dX7_agree_16 rfl rfl (fun r6 v7 H locs hp hw => ?_)
    obtain ⟨hp, rfl⟩ := hp
    have hF := hF.trans (kb_some hp _)
    exact hret _ _ _ _ _ _ hw dX7_agree_19 ⟨hF, rfl⟩
  · skip
    have hF := hF.trans (if_neg c4)
    refine lv_ldc (v := (-1000002)) hx hb hown (hts (.constant RX7 136 (-1000002)) ow_X7_agree_136) dX7_agree_7 ?_
    refine lv_goto (tgt := 19) hx hb dX7_agree_9 (by decide) ?_
    exact hret _ _ _ _ _ _ hw dX7_agree_19 ⟨hF, rfl⟩
abbrev rmX7_man : Room := { frames := 6, cells := 0, slots := 0, locals := 145 }
def g_X7_man (v : Mm) (a1 : Int32) : Option (Int32) := Option.bind (g_X7_noGate v) (fun r2 => if r2 = 0 then (if a1 < 0 then (some ((-1000001))) else (if a1 ≤ 2 then (Option.bind (g_X3_agreeing v 0) (fun r8 => Option.bind (g_X3_bestTry v 0 r8) (fun r11 => if a1 = 2 then (Option.bind (g_X3_leftAtWorst v 0 r11 r8) (fun r16 => some r16)) else (if a1 = 0 then (some (r11 / 6)) else (some (r11 - r11 / 6 * 6)))))) else (some ((-1000001))))) else (some ((-1000002))))
set_option maxHeartbeats 4000000 in
set_option maxRecDepth 100000 in
theorem d_X7_man (l : Launch) (E : kq_T) (Z : km_Z) (v : Mm) (a1 : Int32) (hs : g_X7_man v a1 ≠ none) : km_I l E Z cntX yX7_man wsX7_man rmX7_man [.ref (Z.1 0 0), .int a1] v (fun r v1 => g_X7_man v a1 = some r ∧ v = v1) := by
  refine km_goI (cc := cX7_man) (maxL := 4) (by decide) rfl (Nat.le_of_ble_eq_true rfl) rfl rfl rfl ?_
  intro p e s m below meth c A ls Q C hK hw hl hret
  obtain ⟨hx, hb, hml, hown, hts, -, -, -⟩ := C
  have hown : s.vm.findClass RX7 = some m.cls := hown
  have hl : lv_has ls 4 [(0, .ref (Z.1 0 0)), (1, .int a1)] := hl
  have hF := g_X7_man.eq_1 v a1
  refine lv_aload_n hx hb dX7_man_0 rfl (lv_at hl 0 rfl) ?_
  have hs1 : g_X7_noGate v ≠ none := fun q => hs (hF.trans (kb_n q _))
  refine km_cI (As := []) (rest := []) (n := 0) (q := (RX7, TX7, 9)) (ci := 7) (t := 0) (i := 0) ⟨hx, hb, hml, hown, hts⟩ (d_X7_noGate l E Z v  hs1) gX7_man_X7_noGate rfl hV_X7_noGate ⟨Nat.le_of_ble_eq_true rfl, Nat.le_of_ble_eq_true rfl⟩ hK hw (by decide) (by decide) rfl rfl rfl hl.1 rfl (Nat.le_of_ble_eq_true rfl) dX7_man_1 rfl rfl (fun r2 v3 H locs hp hw => ?_)
  obtain ⟨hp, hzr2⟩ := hp
  obtain ⟨hp, rfl⟩ := hp
  have hF := hF.trans (kb_some hp _)
  refine lv_if_eq (tgt := 10) hx hb dX7_man_4 (by decide) (fun c4 => ?_) (fun c4 => ?_)
  · skip
    have hF := hF.trans (if_pos c4)
    refine lv_iload_n hx hb dX7_man_10 rfl (lv_at hl 1 rfl) ?_
    refine lv_if_lt (tgt := 19) hx hb dX7_man_11 (by decide) (fun c5 => ?_) (fun c5 => ?_)
    · skip
      have hF := hF.trans (if_pos c5)
      refine lv_ldc (v := (-1000001)) hx hb hown (hts (.constant RX7 59 (-1000001)) ow_X7_man_59) dX7_man_19 ?_
      exact hret _ _ _ _ _ _ hw dX7_man_21 ⟨hF, rfl⟩
    · skip
      have hF := hF.trans (if_neg c5)
      refine lv_iload_n hx hb dX7_man_14 rfl (lv_at hl 1 rfl) ?_
      refine lv_iconst (v := 2) hx hb dX7_man_15 (by decide) ?_
      refine lv_icmp_le (tgt := 22) hx hb dX7_man_16 (by decide) (fun c6 => ?_) (fun c6 => ?_)
      · skip
        have hF := hF.trans (if_pos c6)
        refine lv_aload_n hx hb dX7_man_22 rfl (lv_at hl 0 rfl) ?_
        refine km_get (ci := 7) (C := RX7) (T := TX7) (N := 9) (t := 0) (i := 0) hx hb hts fi_X7_man_X7 hown hK hw (by decide) (by decide) rfl rfl 2 (by decide) (hts (.fieldLink RX7 25 "WrongWord" "gate" "LWrongWord$Gate;") ow_X7_man_25) rfl dX7_man_23 ?_
        have hs7 : g_X3_agreeing v 0 ≠ none := fun q => hs (hF.trans (kb_n q _))
        refine km_cSJ (As := [.ref (Z.1 6 0)]) (rest := []) (n := 1) ⟨hx, hb, hml, hown, hts⟩ (d_X3_agreeing l E Z v 0 (by decide) hs7) gX7_man_X3_agreeing rfl hS_X3_agreeing ⟨Nat.le_of_ble_eq_true rfl, Nat.le_of_ble_eq_true rfl⟩ hK hw rfl hl.1 rfl (Nat.le_of_ble_eq_true rfl) dX7_man_26 rfl rfl (fun r8 v9 H locs hp hw => ?_)
        obtain ⟨hp, rfl⟩ := hp
        have hF := hF.trans (kb_some hp _)
        refine lv_istore_n (lv' := [(2, .int r8), (0, .ref (Z.1 0 0)), (1, .int a1)]) hx hb dX7_man_29 rfl hl (by decide) rfl (fun ls hl => ?_)
        refine lv_aload_n hx hb dX7_man_30 rfl (lv_at hl 1 rfl) ?_
        refine km_get (ci := 7) (C := RX7) (T := TX7) (N := 9) (t := 0) (i := 0) hx hb hts fi_X7_man_X7 hown hK hw (by decide) (by decide) rfl rfl 2 (by decide) (hts (.fieldLink RX7 25 "WrongWord" "gate" "LWrongWord$Gate;") ow_X7_man_25) rfl dX7_man_31 ?_
        refine lv_iload_n hx hb dX7_man_34 rfl (lv_at hl 0 rfl) ?_
        have hs10 : g_X3_bestTry v 0 r8 ≠ none := fun q => hs (hF.trans (kb_n q _))
        refine km_cSJ (As := [.ref (Z.1 6 0), .int r8]) (rest := []) (n := 2) ⟨hx, hb, hml, hown, hts⟩ (d_X3_bestTry l E Z v 0 (by decide) r8 hs10) gX7_man_X3_bestTry rfl hS_X3_bestTry ⟨Nat.le_of_ble_eq_true rfl, Nat.le_of_ble_eq_true rfl⟩ hK hw rfl hl.1 rfl (Nat.le_of_ble_eq_true rfl) dX7_man_35 rfl rfl (fun r11 v12 H locs hp hw => ?_)
        obtain ⟨hp, rfl⟩ := hp
        have hF := hF.trans (kb_some hp _)
        refine lv_istore_n (lv' := [(3, .int r11), (2, .int r8), (0, .ref (Z.1 0 0)), (1, .int a1)]) hx hb dX7_man_38 rfl hl (by decide) rfl (fun ls hl => ?_)
        refine lv_iload_n hx hb dX7_man_39 rfl (lv_at hl 3 rfl) ?_
        refine lv_iconst (v := 2) hx hb dX7_man_40 (by decide) ?_
        refine lv_icmp_ne (tgt := 54) hx hb dX7_man_41 (by decide) (fun c13 => ?_) (fun c13 => ?_)
        · skip
          have hF := hF.trans (if_neg c13)
          refine lv_iload_n hx hb dX7_man_54 rfl (lv_at hl 3 rfl) ?_
          refine lv_if_ne (tgt := 65) hx hb dX7_man_55 (by decide) (fun c14 => ?_) (fun c14 => ?_)
          · skip
            have hF := hF.trans (if_neg c14)
            refine lv_iload_n hx hb dX7_man_65 rfl (lv_at hl 0 rfl) ?_
            refine lv_bipush (v := 6) hx hb dX7_man_66 (by decide) ?_
            refine lv_irem hx hb dX7_man_68 (by decide) ?_
            exact hret _ _ _ _ _ _ hw dX7_man_69 ⟨hF, rfl⟩
          · skip
            have hF := hF.trans (if_pos c14)
            refine lv_iload_n hx hb dX7_man_58 rfl (lv_at hl 0 rfl) ?_
            refine lv_bipush (v := 6) hx hb dX7_man_59 (by decide) ?_
            refine lv_idiv hx hb dX7_man_61 (by decide) ?_
            refine lv_goto (tgt := 69) hx hb dX7_man_62 (by decide) ?_
            exact hret _ _ _ _ _ _ hw dX7_man_69 ⟨hF, rfl⟩
        · skip
          have hF := hF.trans (if_pos c13)
          refine lv_aload_n hx hb dX7_man_44 rfl (lv_at hl 2 rfl) ?_
          refine km_get (ci := 7) (C := RX7) (T := TX7) (N := 9) (t := 0) (i := 0) hx hb hts fi_X7_man_X7 hown hK hw (by decide) (by decide) rfl rfl 2 (by decide) (hts (.fieldLink RX7 25 "WrongWord" "gate" "LWrongWord$Gate;") ow_X7_man_25) rfl dX7_man_45 ?_
          refine lv_iload_n hx hb dX7_man_48 rfl (lv_at hl 0 rfl) ?_
          refine lv_iload_n hx hb dX7_man_49 rfl (lv_at hl 1 rfl) ?_
          have hs15 : g_X3_leftAtWorst v 0 r11 r8 ≠ none := fun q => hs (hF.trans (kb_n q _))
          refine km_cSJ (As := [.ref (Z.1 6 0), .int r11, .int r8]) (rest := []) (n := 3) ⟨hx, hb, hml, hown, hts⟩ (d_X3_leftAtWorst l E Z v 0 (by decide) r11 r8 hs15) gX7_man_X3_leftAtWorst rfl hS_X3_leftAtWorst ⟨Nat.le_of_ble_eq_true rfl, Nat.le_of_ble_eq_true rfl⟩ hK hw rfl hl.1 rfl (Nat.le_of_ble_eq_true rfl) dX7_man_50 rfl rfl (fun r16 v17 H locs hp hw => ?_)
          obtain ⟨hp, rfl⟩ := hp
          have hF := hF.trans (kb_some hp _)
          exact hret _ _ _ _ _ _ hw dX7_man_53 ⟨hF, rfl⟩
      · skip
        have hF := hF.trans (if_neg c6)
        refine lv_ldc (v := (-1000001)) hx hb hown (hts (.constant RX7 59 (-1000001)) ow_X7_man_59) dX7_man_19 ?_
        exact hret _ _ _ _ _ _ hw dX7_man_21 ⟨hF, rfl⟩
  · skip
    have hF := hF.trans (if_neg c4)
    refine lv_ldc (v := (-1000002)) hx hb hown (hts (.constant RX7 136 (-1000002)) ow_X7_man_136) dX7_man_7 ?_
    exact hret _ _ _ _ _ _ hw dX7_man_9 ⟨hF, rfl⟩
abbrev rmX7_fewest : Room := { frames := 5, cells := 0, slots := 0, locals := 121 }
def g_X7_fewest (v : Mm)  : Option (Int32 × Mm) := Option.bind (g_X7_noGate v) (fun r2 => if r2 = 0 then (Option.bind (g_X3_agreeing v 0) (fun r6 => kb2 (g_X3_fewestMen v 0 r6) (fun r9 v10 => some (r9, v10)))) else (some ((-1000002), v)))
set_option maxHeartbeats 4000000 in
set_option maxRecDepth 100000 in
theorem d_X7_fewest (l : Launch) (E : kq_T) (Z : km_Z) (v : Mm) (hs : g_X7_fewest v ≠ none) : km_I l E Z cntX yX7_fewest wsX7_fewest rmX7_fewest [.ref (Z.1 0 0)] v (fun r v1 => g_X7_fewest v = some (r, v1)) := by
  refine km_goI (cc := cX7_fewest) (maxL := 1) (by decide) rfl (Nat.le_of_ble_eq_true rfl) rfl rfl rfl ?_
  intro p e s m below meth c A ls Q C hK hw hl hret
  obtain ⟨hx, hb, hml, hown, hts, -, -, -⟩ := C
  have hown : s.vm.findClass RX7 = some m.cls := hown
  have hl : lv_has ls 1 [(0, .ref (Z.1 0 0))] := hl
  have hF := g_X7_fewest.eq_1 v 
  refine lv_aload_n hx hb dX7_fewest_0 rfl (lv_at hl 0 rfl) ?_
  have hs1 : g_X7_noGate v ≠ none := fun q => hs (hF.trans (kb_n q _))
  refine km_cI (As := []) (rest := []) (n := 0) (q := (RX7, TX7, 9)) (ci := 7) (t := 0) (i := 0) ⟨hx, hb, hml, hown, hts⟩ (d_X7_noGate l E Z v  hs1) gX7_fewest_X7_noGate rfl hV_X7_noGate ⟨Nat.le_of_ble_eq_true rfl, Nat.le_of_ble_eq_true rfl⟩ hK hw (by decide) (by decide) rfl rfl rfl hl.1 rfl (Nat.le_of_ble_eq_true rfl) dX7_fewest_1 rfl rfl (fun r2 v3 H locs hp hw => ?_)
  obtain ⟨hp, hzr2⟩ := hp
  obtain ⟨hp, rfl⟩ := hp
  have hF := hF.trans (kb_some hp _)
  refine lv_if_eq (tgt := 12) hx hb dX7_fewest_4 (by decide) (fun c4 => ?_) (fun c4 => ?_)
  · skip
    have hF := hF.trans (if_pos c4)
    refine lv_aload_n hx hb dX7_fewest_12 rfl (lv_at hl 0 rfl) ?_
    refine km_get (ci := 7) (C := RX7) (T := TX7) (N := 9) (t := 0) (i := 0) hx hb hts fi_X7_fewest_X7 hown hK hw (by decide) (by decide) rfl rfl 5 (by decide) (hts (.fieldLink RX7 43 "WrongWord" "guesses" "LWrongWord$Guesses;") ow_X7_fewest_43) rfl dX7_fewest_13 ?_
    refine lv_aload_n hx hb dX7_fewest_16 rfl (lv_at hl 0 rfl) ?_
    refine km_get (ci := 7) (C := RX7) (T := TX7) (N := 9) (t := 0) (i := 0) hx hb hts fi_X7_fewest_X7 hown hK hw (by decide) (by decide) rfl rfl 2 (by decide) (hts (.fieldLink RX7 25 "WrongWord" "gate" "LWrongWord$Gate;") ow_X7_fewest_25) rfl dX7_fewest_17 ?_
    refine lv_aload_n hx hb dX7_fewest_20 rfl (lv_at hl 0 rfl) ?_
    refine km_get (ci := 7) (C := RX7) (T := TX7) (N := 9) (t := 0) (i := 0) hx hb hts fi_X7_fewest_X7 hown hK hw (by decide) (by decide) rfl rfl 2 (by decide) (hts (.fieldLink RX7 25 "WrongWord" "gate" "LWrongWord$Gate;") ow_X7_fewest_25) rfl dX7_fewest_21 ?_
    have hs5 : g_X3_agreeing v 0 ≠ none := fun q => hs (hF.trans (kb_n q _))
    refine km_cSJ (As := [.ref (Z.1 6 0)]) (rest := [.ref (Z.1 6 0), .ref (Z.1 18 0)]) (n := 1) ⟨hx, hb, hml, hown, hts⟩ (d_X3_agreeing l E Z v 0 (by decide) hs5) gX7_fewest_X3_agreeing rfl hS_X3_agreeing ⟨Nat.le_of_ble_eq_true rfl, Nat.le_of_ble_eq_true rfl⟩ hK hw rfl hl.1 rfl (Nat.le_of_ble_eq_true rfl) dX7_fewest_24 rfl rfl (fun r6 v7 H locs hp hw => ?_)
    obtain ⟨hp, rfl⟩ := hp
    have hF := hF.trans (kb_some hp _)
    have hs8 : g_X3_fewestMen v 0 r6 ≠ none := fun q => hs (hF.trans (kb2_n q _))
    refine km_cI (As := [.ref (Z.1 6 0), .int r6]) (rest := []) (n := 2) (q := (RX3, TX3, 2)) (ci := 3) (t := 18) (i := 0) ⟨hx, hb, hml, hown, hts⟩ (d_X3_fewestMen l E Z v 0 (by decide) r6 hs8) gX7_fewest_X3_fewestMen rfl hV_X3_fewestMen ⟨Nat.le_of_ble_eq_true rfl, Nat.le_of_ble_eq_true rfl⟩ hK hw (by decide) (by decide) rfl rfl rfl hl.1 rfl (Nat.le_of_ble_eq_true rfl) dX7_fewest_27 rfl rfl (fun r9 v10 H locs hp hw => ?_)
    have hF := hF.trans (kb2_some hp _)
    exact hret _ _ _ _ _ _ hw dX7_fewest_30 hF
  · skip
    have hF := hF.trans (if_neg c4)
    refine lv_ldc (v := (-1000002)) hx hb hown (hts (.constant RX7 136 (-1000002)) ow_X7_fewest_136) dX7_fewest_7 ?_
    refine lv_goto (tgt := 30) hx hb dX7_fewest_9 (by decide) ?_
    exact hret _ _ _ _ _ _ hw dX7_fewest_30 hF
abbrev rmX7_hourOfLast : Room := { frames := 5, cells := 0, slots := 0, locals := 119 }
def b_X7_hourOfLast_L6  (rec6 : Int32 → Int32 → Option (Int32)) (v : Mm) (i1 : Nat) (a2 : Int32) (a3 : Int32) (x4_6 : Int32) (x5_6 : Int32) : Option (Int32) := if a3 ≤ x5_6 then (some x4_6) else (if a2 + x5_6 < 0 ∨ 40 ≤ Int32.toNatClampNeg (a2 + x5_6) then none else (Option.bind (some (v 3 i1 (Int32.toNatClampNeg (a2 + x5_6)))) (fun x3 => Option.bind (g_X7_isWord v x3) (fun r5 => if r5 = 0 then (some ((-1000000))) else (Option.bind (g_X2_hourIn v 0 x3 (x4_6 + 1)) (fun r10 => if r10 = (-1000000) then (some ((-1000000))) else (rec6 r10 (x5_6 + 1))))))))
def g_X7_hourOfLast_L6  (v : Mm) (i1 : Nat) (a2 : Int32) (a3 : Int32) : Nat → Int32 → Int32 → Option (Int32)
  | 0 => fun _ _ => none
  | n + 1 => b_X7_hourOfLast_L6  (g_X7_hourOfLast_L6  v i1 a2 a3 n) v i1 a2 a3
def g_X7_hourOfLast (v : Mm) (i1 : Nat) (a2 : Int32) (a3 : Int32) : Option (Int32) := g_X7_hourOfLast_L6  v i1 a2 a3 2000 ((-1)) 0
set_option maxHeartbeats 4000000 in
set_option maxRecDepth 100000 in
theorem d_X7_hourOfLast (l : Launch) (E : kq_T) (Z : km_Z) (v : Mm) (i1 : Nat) (h_i1 : i1 < cntX 2) (a2 : Int32) (a3 : Int32) (hs : g_X7_hourOfLast v i1 a2 a3 ≠ none) : km_I l E Z cntX yX7_hourOfLast wsX7_hourOfLast rmX7_hourOfLast [.ref (Z.1 0 0), .ref (Z.1 2 i1), .int a2, .int a3] v (fun r v1 => g_X7_hourOfLast v i1 a2 a3 = some r ∧ v = v1) := by
  refine km_goI (cc := cX7_hourOfLast) (maxL := 7) (by decide) rfl (Nat.le_of_ble_eq_true rfl) rfl rfl rfl ?_
  intro p e s m below meth c A ls Q C hK hw hl hret
  obtain ⟨hx, hb, hml, hown, hts, -, -, -⟩ := C
  have hown : s.vm.findClass RX7 = some m.cls := hown
  have hl : lv_has ls 7 [(0, .ref (Z.1 0 0)), (1, .ref (Z.1 2 i1)), (2, .int a2), (3, .int a3)] := hl
  have hF := g_X7_hourOfLast.eq_1 v i1 a2 a3
  have loop6 : ∀ (n6 : Nat) (x4_6 : Int32) (x5_6 : Int32) (H : Heap) (locs : List Loc) (ls : Array Slot), g_X7_hourOfLast v i1 a2 a3 = g_X7_hourOfLast_L6  v i1 a2 a3 n6 x4_6 x5_6 → km_w E A s.heap [] Z cntX v H locs → lv_has ls 7 [(0, .ref (Z.1 0 0)), (1, .ref (Z.1 2 i1)), (2, .int a2), (3, .int a3), (4, .int x4_6), (5, .int x5_6)] → W p l e rmX7_hourOfLast s m [.ref (Z.1 0 0), .ref (Z.1 2 i1), .int a2, .int a3].toArray below meth c H locs 0 0 Q (F0 m 6 ls []) := by
    intro n6
    induction n6 with
    | zero => intro x4_6 x5_6 H locs ls hF hw hl; exact absurd (show g_X7_hourOfLast v i1 a2 a3 = none from hF) hs
    | succ n6 ih6 =>
      intro x4_6 x5_6 H locs ls hF hw hl
      have hF := hF.trans (b_X7_hourOfLast_L6.eq_1  (g_X7_hourOfLast_L6  v i1 a2 a3 n6) v i1 a2 a3 x4_6 x5_6)
      refine lv_iload hx hb dX7_hourOfLast_6 (lv_at hl 5 rfl) ?_
      refine lv_iload_n hx hb dX7_hourOfLast_8 rfl (lv_at hl 3 rfl) ?_
      refine lv_icmp_ge (tgt := 68) hx hb dX7_hourOfLast_9 (by decide) (fun c1 => ?_) (fun c1 => ?_)
      · skip
        have hF := hF.trans (if_pos c1)
        refine lv_iload hx hb dX7_hourOfLast_68 (lv_at hl 4 rfl) ?_
        exact hret _ _ _ _ _ _ hw dX7_hourOfLast_70 ⟨hF, rfl⟩
      · skip
        have hF := hF.trans (if_neg c1)
        refine lv_aload_n hx hb dX7_hourOfLast_12 rfl (lv_at hl 1 rfl) ?_
        refine km_get (ci := 5) (C := RX5) (T := TX5) (N := 3) (t := 2) (i := i1) hx hb hts fi_X7_hourOfLast_X5 hown hK hw (by decide) h_i1 rfl rfl 0 (by decide) (hts (.fieldLink RX7 86 "WrongWord$Row" "items" "[I") ow_X7_hourOfLast_86) rfl dX7_hourOfLast_13 ?_
        refine lv_iload_n hx hb dX7_hourOfLast_16 rfl (lv_at hl 2 rfl) ?_
        refine lv_iload hx hb dX7_hourOfLast_17 (lv_at hl 5 rfl) ?_
        refine lv_iadd hx hb dX7_hourOfLast_19 ?_
        have hb2 : ¬ (a2 + x5_6 < 0 ∨ 40 ≤ Int32.toNatClampNeg (a2 + x5_6)) := fun q => hs (hF.trans (if_pos q))
        have hF := hF.trans (if_neg hb2)
        refine km_iald (t := 3) (i := i1) hx hb hK hw (by decide) h_i1 rfl hb2 dX7_hourOfLast_20 ?_
        refine lv_topi (fun x3 ex3 => ?_)
        have hF := hF.trans (kb_some (congrArg some ex3.symm) _)
        refine lv_istore (lv' := [(6, .int x3), (0, .ref (Z.1 0 0)), (1, .ref (Z.1 2 i1)), (2, .int a2), (3, .int a3), (4, .int x4_6), (5, .int x5_6)]) hx hb dX7_hourOfLast_21 hl (by decide) rfl (fun ls hl => ?_)
        refine lv_aload_n hx hb dX7_hourOfLast_23 rfl (lv_at hl 1 rfl) ?_
        refine lv_iload hx hb dX7_hourOfLast_24 (lv_at hl 0 rfl) ?_
        have hs4 : g_X7_isWord v x3 ≠ none := fun q => hs (hF.trans (kb_n q _))
        refine km_cI (As := [.int x3]) (rest := []) (n := 1) (q := (RX7, TX7, 9)) (ci := 7) (t := 0) (i := 0) ⟨hx, hb, hml, hown, hts⟩ (d_X7_isWord l E Z v x3 hs4) gX7_hourOfLast_X7_isWord rfl hV_X7_isWord ⟨Nat.le_of_ble_eq_true rfl, Nat.le_of_ble_eq_true rfl⟩ hK hw (by decide) (by decide) rfl rfl rfl hl.1 rfl (Nat.le_of_ble_eq_true rfl) dX7_hourOfLast_26 rfl rfl (fun r5 v6 H locs hp hw => ?_)
        obtain ⟨hp, hzr5⟩ := hp
        obtain ⟨hp, rfl⟩ := hp
        have hF := hF.trans (kb_some hp _)
        refine lv_if_eq (tgt := 48) hx hb dX7_hourOfLast_29 (by decide) (fun c7 => ?_) (fun c7 => ?_)
        · skip
          have hF := hF.trans (if_pos c7)
          refine lv_ldc (v := (-1000000)) hx hb hown (hts (.constant RX7 175 (-1000000)) ow_X7_hourOfLast_175) dX7_hourOfLast_48 ?_
          refine lv_istore (lv' := [(4, .int ((-1000000))), (6, .int x3), (0, .ref (Z.1 0 0)), (1, .ref (Z.1 2 i1)), (2, .int a2), (3, .int a3), (5, .int x5_6)]) hx hb dX7_hourOfLast_50 hl (by decide) rfl (fun ls hl => ?_)
          refine lv_iload hx hb dX7_hourOfLast_52 (lv_at hl 0 rfl) ?_
          refine lv_ldc (v := (-1000000)) hx hb hown (hts (.constant RX7 175 (-1000000)) ow_X7_hourOfLast_175) dX7_hourOfLast_54 ?_
          refine lv_icmp_ne (tgt := 62) hx hb dX7_hourOfLast_56 (by decide) (fun c8 => ?_) (fun c8 => ?_)
          · exact absurd (by decide) c8
          refine lv_ldc (v := (-1000000)) hx hb hown (hts (.constant RX7 175 (-1000000)) ow_X7_hourOfLast_175) dX7_hourOfLast_59 ?_
          exact hret _ _ _ _ _ _ hw dX7_hourOfLast_61 ⟨hF, rfl⟩
        · skip
          have hF := hF.trans (if_neg c7)
          refine lv_aload_n hx hb dX7_hourOfLast_32 rfl (lv_at hl 1 rfl) ?_
          refine km_get (ci := 7) (C := RX7) (T := TX7) (N := 9) (t := 0) (i := 0) hx hb hts fi_X7_hourOfLast_X7 hown hK hw (by decide) (by decide) rfl rfl 2 (by decide) (hts (.fieldLink RX7 25 "WrongWord" "gate" "LWrongWord$Gate;") ow_X7_hourOfLast_25) rfl dX7_hourOfLast_33 ?_
          refine lv_iload hx hb dX7_hourOfLast_36 (lv_at hl 0 rfl) ?_
          refine lv_iload hx hb dX7_hourOfLast_38 (lv_at hl 5 rfl) ?_
          refine lv_iconst (v := 1) hx hb dX7_hourOfLast_40 (by decide) ?_
          refine lv_iadd hx hb dX7_hourOfLast_41 ?_
          have hs9 : g_X2_hourIn v 0 x3 (x4_6 + 1) ≠ none := fun q => hs (hF.trans (kb_n q _))
          refine km_cI (As := [.int x3, .int (x4_6 + 1)]) (rest := []) (n := 2) (q := (RX2, TX2, 8)) (ci := 2) (t := 6) (i := 0) ⟨hx, hb, hml, hown, hts⟩ (d_X2_hourIn l E Z v 0 (by decide) x3 (x4_6 + 1) hs9) gX7_hourOfLast_X2_hourIn rfl hV_X2_hourIn ⟨Nat.le_of_ble_eq_true rfl, Nat.le_of_ble_eq_true rfl⟩ hK hw (by decide) (by decide) rfl rfl rfl hl.1 rfl (Nat.le_of_ble_eq_true rfl) dX7_hourOfLast_42 rfl rfl (fun r10 v11 H locs hp hw => ?_)
          obtain ⟨hp, rfl⟩ := hp
          have hF := hF.trans (kb_some hp _)
          refine lv_goto (tgt := 50) hx hb dX7_hourOfLast_45 (by decide) ?_
          refine lv_istore (lv' := [(4, .int r10), (6, .int x3), (0, .ref (Z.1 0 0)), (1, .ref (Z.1 2 i1)), (2, .int a2), (3, .int a3), (5, .int x5_6)]) hx hb dX7_hourOfLast_50 hl (by decide) rfl (fun ls hl => ?_)
          refine lv_iload hx hb dX7_hourOfLast_52 (lv_at hl 0 rfl) ?_
          refine lv_ldc (v := (-1000000)) hx hb hown (hts (.constant RX7 175 (-1000000)) ow_X7_hourOfLast_175) dX7_hourOfLast_54 ?_
          refine lv_icmp_ne (tgt := 62) hx hb dX7_hourOfLast_56 (by decide) (fun c12 => ?_) (fun c12 => ?_)
          · skip
            have hF := hF.trans (if_neg c12)
            refine lv_iinc (v := x5_6 + 1) (lv' := [(5, .int (x5_6 + 1)), (4, .int r10), (6, .int x3), (0, .ref (Z.1 0 0)), (1, .ref (Z.1 2 i1)), (2, .int a2), (3, .int a3)]) hx hb dX7_hourOfLast_62 hl (k := 6) rfl rfl (by decide) rfl (fun ls hl => ?_)
            refine lv_goto (tgt := 6) hx hb dX7_hourOfLast_65 (by decide) ?_
            have hl := lv_sub (l' := [(0, .ref (Z.1 0 0)), (1, .ref (Z.1 2 i1)), (2, .int a2), (3, .int a3), (4, .int r10), (5, .int (x5_6 + 1))]) hl [3, 4, 5, 6, 1, 0] rfl
            exact ih6 r10 (x5_6 + 1) _ _ _ hF hw hl
          · skip
            have hF := hF.trans (if_pos c12)
            refine lv_ldc (v := (-1000000)) hx hb hown (hts (.constant RX7 175 (-1000000)) ow_X7_hourOfLast_175) dX7_hourOfLast_59 ?_
            exact hret _ _ _ _ _ _ hw dX7_hourOfLast_61 ⟨hF, rfl⟩
  refine lv_iconst (v := (-1)) hx hb dX7_hourOfLast_0 (by decide) ?_
  refine lv_istore (lv' := [(4, .int ((-1))), (0, .ref (Z.1 0 0)), (1, .ref (Z.1 2 i1)), (2, .int a2), (3, .int a3)]) hx hb dX7_hourOfLast_1 hl (by decide) rfl (fun ls hl => ?_)
  refine lv_iconst (v := 0) hx hb dX7_hourOfLast_3 (by decide) ?_
  refine lv_istore (lv' := [(5, .int 0), (4, .int ((-1))), (0, .ref (Z.1 0 0)), (1, .ref (Z.1 2 i1)), (2, .int a2), (3, .int a3)]) hx hb dX7_hourOfLast_4 hl (by decide) rfl (fun ls hl => ?_)
  have hl := lv_sub (l' := [(0, .ref (Z.1 0 0)), (1, .ref (Z.1 2 i1)), (2, .int a2), (3, .int a3), (4, .int ((-1))), (5, .int 0)]) hl [2, 3, 4, 5, 1, 0] rfl
  exact loop6 2000 ((-1)) 0 _ _ _ hF hw hl
abbrev rmX7_march : Room := { frames := 6, cells := 0, slots := 0, locals := 145 }
def g_X7_march (v : Mm) (a1 : Int32) (a2 : Int32) (a3 : Int32) (a4 : Int32) : Option (Int32 × Mm) := Option.bind (g_X7_noGate v) (fun r2 => if r2 = 0 then (Option.bind (g_X7_isRow v a1) (fun r6 => if r6 = 0 then (some ((-1000001), v)) else (if a3 < 1 then (some ((-1000001), v)) else (if 6 < a3 then (some ((-1000001), v)) else (if a4 < (-1) then (some ((-1000001), v)) else (if a4 < a3 then (if a1 < 0 ∨ 8 ≤ Int32.toNatClampNeg a1 then none else (Option.bind (g_X5_findingOf v ((Int32.toNatClampNeg a1)) a2 a3) (fun r15 => if r15 = 0 then (if a1 < 0 ∨ 8 ≤ Int32.toNatClampNeg a1 then none else (if a4 = (-1) then (Option.bind (g_X7_hourOfLast v ((Int32.toNatClampNeg a1)) a2 a3) (fun r27 => kb2 (g_X7_unfound v r27) (fun r30 v31 => some (r30, v31)))) else (Option.bind (g_X7_hourOfLast v ((Int32.toNatClampNeg a1)) a2 (a4 + 1)) (fun r21 => kb2 (g_X7_unfound v r21) (fun r24 v25 => some (r24, v25)))))) else (kb2 (g_X7_found v r15) (fun r33 v34 => some (r33, v34)))))) else (some ((-1000001), v)))))))) else (some ((-1000002), v)))
set_option maxHeartbeats 4000000 in
set_option maxRecDepth 100000 in
theorem d_X7_march (l : Launch) (E : kq_T) (Z : km_Z) (v : Mm) (a1 : Int32) (a2 : Int32) (a3 : Int32) (a4 : Int32) (hs : g_X7_march v a1 a2 a3 a4 ≠ none) : km_I l E Z cntX yX7_march wsX7_march rmX7_march [.ref (Z.1 0 0), .int a1, .int a2, .int a3, .int a4] v (fun r v1 => g_X7_march v a1 a2 a3 a4 = some (r, v1)) := by
  refine km_goI (cc := cX7_march) (maxL := 6) (by decide) rfl (Nat.le_of_ble_eq_true rfl) rfl rfl rfl ?_
  intro p e s m below meth c A ls Q C hK hw hl hret
  obtain ⟨hx, hb, hml, hown, hts, -, -, -⟩ := C
  have hown : s.vm.findClass RX7 = some m.cls := hown
  have hl : lv_has ls 6 [(0, .ref (Z.1 0 0)), (1, .int a1), (2, .int a2), (3, .int a3), (4, .int a4)] := hl
  have hF := g_X7_march.eq_1 v a1 a2 a3 a4
  refine lv_aload_n hx hb dX7_march_0 rfl (lv_at hl 0 rfl) ?_
  have hs1 : g_X7_noGate v ≠ none := fun q => hs (hF.trans (kb_n q _))
  refine km_cI (As := []) (rest := []) (n := 0) (q := (RX7, TX7, 9)) (ci := 7) (t := 0) (i := 0) ⟨hx, hb, hml, hown, hts⟩ (d_X7_noGate l E Z v  hs1) gX7_march_X7_noGate rfl hV_X7_noGate ⟨Nat.le_of_ble_eq_true rfl, Nat.le_of_ble_eq_true rfl⟩ hK hw (by decide) (by decide) rfl rfl rfl hl.1 rfl (Nat.le_of_ble_eq_true rfl) dX7_march_1 rfl rfl (fun r2 v3 H locs hp hw => ?_)
  obtain ⟨hp, hzr2⟩ := hp
  obtain ⟨hp, rfl⟩ := hp
  have hF := hF.trans (kb_some hp _)
  refine lv_if_eq (tgt := 10) hx hb dX7_march_4 (by decide) (fun c4 => ?_) (fun c4 => ?_)
  · skip
    have hF := hF.trans (if_pos c4)
    refine lv_aload_n hx hb dX7_march_10 rfl (lv_at hl 0 rfl) ?_
    refine lv_iload_n hx hb dX7_march_11 rfl (lv_at hl 1 rfl) ?_
    have hs5 : g_X7_isRow v a1 ≠ none := fun q => hs (hF.trans (kb_n q _))
    refine km_cI (As := [.int a1]) (rest := []) (n := 1) (q := (RX7, TX7, 9)) (ci := 7) (t := 0) (i := 0) ⟨hx, hb, hml, hown, hts⟩ (d_X7_isRow l E Z v a1 hs5) gX7_march_X7_isRow rfl hV_X7_isRow ⟨Nat.le_of_ble_eq_true rfl, Nat.le_of_ble_eq_true rfl⟩ hK hw (by decide) (by decide) rfl rfl rfl hl.1 rfl (Nat.le_of_ble_eq_true rfl) dX7_march_12 rfl rfl (fun r6 v7 H locs hp hw => ?_)
    obtain ⟨hp, hzr6⟩ := hp
    obtain ⟨hp, rfl⟩ := hp
    have hF := hF.trans (kb_some hp _)
    refine lv_if_eq (tgt := 41) hx hb dX7_march_15 (by decide) (fun c8 => ?_) (fun c8 => ?_)
    · skip
      have hF := hF.trans (if_pos c8)
      refine lv_ldc (v := (-1000001)) hx hb hown (hts (.constant RX7 59 (-1000001)) ow_X7_march_59) dX7_march_41 ?_
      exact hret _ _ _ _ _ _ hw dX7_march_43 hF
    · skip
      have hF := hF.trans (if_neg c8)
      refine lv_iload_n hx hb dX7_march_18 rfl (lv_at hl 3 rfl) ?_
      refine lv_iconst (v := 1) hx hb dX7_march_19 (by decide) ?_
      refine lv_icmp_lt (tgt := 41) hx hb dX7_march_20 (by decide) (fun c9 => ?_) (fun c9 => ?_)
      · skip
        have hF := hF.trans (if_pos c9)
        refine lv_ldc (v := (-1000001)) hx hb hown (hts (.constant RX7 59 (-1000001)) ow_X7_march_59) dX7_march_41 ?_
        exact hret _ _ _ _ _ _ hw dX7_march_43 hF
      · skip
        have hF := hF.trans (if_neg c9)
        refine lv_iload_n hx hb dX7_march_23 rfl (lv_at hl 3 rfl) ?_
        refine lv_bipush (v := 6) hx hb dX7_march_24 (by decide) ?_
        refine lv_icmp_gt (tgt := 41) hx hb dX7_march_26 (by decide) (fun c10 => ?_) (fun c10 => ?_)
        · skip
          have hF := hF.trans (if_pos c10)
          refine lv_ldc (v := (-1000001)) hx hb hown (hts (.constant RX7 59 (-1000001)) ow_X7_march_59) dX7_march_41 ?_
          exact hret _ _ _ _ _ _ hw dX7_march_43 hF
        · skip
          have hF := hF.trans (if_neg c10)
          refine lv_iload hx hb dX7_march_29 (lv_at hl 4 rfl) ?_
          refine lv_iconst (v := (-1)) hx hb dX7_march_31 (by decide) ?_
          refine lv_icmp_lt (tgt := 41) hx hb dX7_march_32 (by decide) (fun c11 => ?_) (fun c11 => ?_)
          · skip
            have hF := hF.trans (if_pos c11)
            refine lv_ldc (v := (-1000001)) hx hb hown (hts (.constant RX7 59 (-1000001)) ow_X7_march_59) dX7_march_41 ?_
            exact hret _ _ _ _ _ _ hw dX7_march_43 hF
          · skip
            have hF := hF.trans (if_neg c11)
            refine lv_iload hx hb dX7_march_35 (lv_at hl 4 rfl) ?_
            refine lv_iload_n hx hb dX7_march_37 rfl (lv_at hl 3 rfl) ?_
            refine lv_icmp_lt (tgt := 44) hx hb dX7_march_38 (by decide) (fun c12 => ?_) (fun c12 => ?_)
            · skip
              have hF := hF.trans (if_pos c12)
              refine lv_aload_n hx hb dX7_march_44 rfl (lv_at hl 0 rfl) ?_
              refine km_get (ci := 7) (C := RX7) (T := TX7) (N := 9) (t := 0) (i := 0) hx hb hts fi_X7_march_X7 hown hK hw (by decide) (by decide) rfl rfl 0 (by decide) (hts (.fieldLink RX7 11 "WrongWord" "rows" "[LWrongWord$Row;") ow_X7_march_11) rfl dX7_march_45 ?_
              refine lv_iload_n hx hb dX7_march_48 rfl (lv_at hl 1 rfl) ?_
              have hb13 : ¬ (a1 < 0 ∨ 8 ≤ Int32.toNatClampNeg a1) := fun q => hs (hF.trans (if_pos q))
              have hF := hF.trans (if_neg hb13)
              refine km_rows hx hb hK hw (by decide) hb13 dX7_march_49 ?_
              refine lv_iload_n hx hb dX7_march_50 rfl (lv_at hl 2 rfl) ?_
              refine lv_iload_n hx hb dX7_march_51 rfl (lv_at hl 3 rfl) ?_
              have hs14 : g_X5_findingOf v ((Int32.toNatClampNeg a1)) a2 a3 ≠ none := fun q => hs (hF.trans (kb_n q _))
              refine km_cI (As := [.int a2, .int a3]) (rest := []) (n := 2) (q := (RX5, TX5, 3)) (ci := 5) (t := 2) (i := (Int32.toNatClampNeg a1)) ⟨hx, hb, hml, hown, hts⟩ (d_X5_findingOf l E Z v ((Int32.toNatClampNeg a1)) (Nat.not_le.mp fun h9 => hb13 (Or.inr h9)) a2 a3 hs14) gX7_march_X5_findingOf rfl hV_X5_findingOf ⟨Nat.le_of_ble_eq_true rfl, Nat.le_of_ble_eq_true rfl⟩ hK hw (by decide) (Nat.not_le.mp fun h9 => hb13 (Or.inr h9)) rfl rfl rfl hl.1 rfl (Nat.le_of_ble_eq_true rfl) dX7_march_52 rfl rfl (fun r15 v16 H locs hp hw => ?_)
              obtain ⟨hp, rfl⟩ := hp
              have hF := hF.trans (kb_some hp _)
              refine lv_istore (lv' := [(5, .int r15), (0, .ref (Z.1 0 0)), (1, .int a1), (2, .int a2), (3, .int a3), (4, .int a4)]) hx hb dX7_march_55 hl (by decide) rfl (fun ls hl => ?_)
              refine lv_iload hx hb dX7_march_57 (lv_at hl 0 rfl) ?_
              refine lv_if_eq (tgt := 69) hx hb dX7_march_59 (by decide) (fun c17 => ?_) (fun c17 => ?_)
              · skip
                have hF := hF.trans (if_pos c17)
                refine lv_aload_n hx hb dX7_march_69 rfl (lv_at hl 1 rfl) ?_
                refine lv_aload_n hx hb dX7_march_70 rfl (lv_at hl 1 rfl) ?_
                refine lv_aload_n hx hb dX7_march_71 rfl (lv_at hl 1 rfl) ?_
                refine km_get (ci := 7) (C := RX7) (T := TX7) (N := 9) (t := 0) (i := 0) hx hb hts fi_X7_march_X7 hown hK hw (by decide) (by decide) rfl rfl 0 (by decide) (hts (.fieldLink RX7 11 "WrongWord" "rows" "[LWrongWord$Row;") ow_X7_march_11) rfl dX7_march_72 ?_
                refine lv_iload_n hx hb dX7_march_75 rfl (lv_at hl 2 rfl) ?_
                have hb18 : ¬ (a1 < 0 ∨ 8 ≤ Int32.toNatClampNeg a1) := fun q => hs (hF.trans (if_pos q))
                have hF := hF.trans (if_neg hb18)
                refine km_rows hx hb hK hw (by decide) hb18 dX7_march_76 ?_
                refine lv_iload_n hx hb dX7_march_77 rfl (lv_at hl 3 rfl) ?_
                refine lv_iload hx hb dX7_march_78 (lv_at hl 5 rfl) ?_
                refine lv_iconst (v := (-1)) hx hb dX7_march_80 (by decide) ?_
                refine lv_icmp_ne (tgt := 88) hx hb dX7_march_81 (by decide) (fun c19 => ?_) (fun c19 => ?_)
                · skip
                  have hF := hF.trans (if_neg c19)
                  refine lv_iload hx hb dX7_march_88 (lv_at hl 5 rfl) ?_
                  refine lv_iconst (v := 1) hx hb dX7_march_90 (by decide) ?_
                  refine lv_iadd hx hb dX7_march_91 ?_
                  have hs20 : g_X7_hourOfLast v ((Int32.toNatClampNeg a1)) a2 (a4 + 1) ≠ none := fun q => hs (hF.trans (kb_n q _))
                  refine km_cI (As := [.ref (Z.1 2 ((Int32.toNatClampNeg a1))), .int a2, .int (a4 + 1)]) (rest := [.ref (Z.1 0 0)]) (n := 3) (q := (RX7, TX7, 9)) (ci := 7) (t := 0) (i := 0) ⟨hx, hb, hml, hown, hts⟩ (d_X7_hourOfLast l E Z v ((Int32.toNatClampNeg a1)) (Nat.not_le.mp fun h9 => hb18 (Or.inr h9)) a2 (a4 + 1) hs20) gX7_march_X7_hourOfLast rfl hV_X7_hourOfLast ⟨Nat.le_of_ble_eq_true rfl, Nat.le_of_ble_eq_true rfl⟩ hK hw (by decide) (by decide) rfl rfl rfl hl.1 rfl (Nat.le_of_ble_eq_true rfl) dX7_march_92 rfl rfl (fun r21 v22 H locs hp hw => ?_)
                  obtain ⟨hp, rfl⟩ := hp
                  have hF := hF.trans (kb_some hp _)
                  have hs23 : g_X7_unfound v r21 ≠ none := fun q => hs (hF.trans (kb2_n q _))
                  refine km_cI (As := [.int r21]) (rest := []) (n := 1) (q := (RX7, TX7, 9)) (ci := 7) (t := 0) (i := 0) ⟨hx, hb, hml, hown, hts⟩ (d_X7_unfound l E Z v r21 hs23) gX7_march_X7_unfound rfl hV_X7_unfound ⟨Nat.le_of_ble_eq_true rfl, Nat.le_of_ble_eq_true rfl⟩ hK hw (by decide) (by decide) rfl rfl rfl hl.1 rfl (Nat.le_of_ble_eq_true rfl) dX7_march_95 rfl rfl (fun r24 v25 H locs hp hw => ?_)
                  have hF := hF.trans (kb2_some hp _)
                  exact hret _ _ _ _ _ _ hw dX7_march_98 hF
                · skip
                  have hF := hF.trans (if_pos c19)
                  refine lv_iload_n hx hb dX7_march_84 rfl (lv_at hl 4 rfl) ?_
                  refine lv_goto (tgt := 92) hx hb dX7_march_85 (by decide) ?_
                  have hs26 : g_X7_hourOfLast v ((Int32.toNatClampNeg a1)) a2 a3 ≠ none := fun q => hs (hF.trans (kb_n q _))
                  refine km_cI (As := [.ref (Z.1 2 ((Int32.toNatClampNeg a1))), .int a2, .int a3]) (rest := [.ref (Z.1 0 0)]) (n := 3) (q := (RX7, TX7, 9)) (ci := 7) (t := 0) (i := 0) ⟨hx, hb, hml, hown, hts⟩ (d_X7_hourOfLast l E Z v ((Int32.toNatClampNeg a1)) (Nat.not_le.mp fun h9 => hb18 (Or.inr h9)) a2 a3 hs26) gX7_march_X7_hourOfLast rfl hV_X7_hourOfLast ⟨Nat.le_of_ble_eq_true rfl, Nat.le_of_ble_eq_true rfl⟩ hK hw (by decide) (by decide) rfl rfl rfl hl.1 rfl (Nat.le_of_ble_eq_true rfl) dX7_march_92 rfl rfl (fun r27 v28 H locs hp hw => ?_)
                  obtain ⟨hp, rfl⟩ := hp
                  have hF := hF.trans (kb_some hp _)
                  have hs29 : g_X7_unfound v r27 ≠ none := fun q => hs (hF.trans (kb2_n q _))
                  refine km_cI (As := [.int r27]) (rest := []) (n := 1) (q := (RX7, TX7, 9)) (ci := 7) (t := 0) (i := 0) ⟨hx, hb, hml, hown, hts⟩ (d_X7_unfound l E Z v r27 hs29) gX7_march_X7_unfound rfl hV_X7_unfound ⟨Nat.le_of_ble_eq_true rfl, Nat.le_of_ble_eq_true rfl⟩ hK hw (by decide) (by decide) rfl rfl rfl hl.1 rfl (Nat.le_of_ble_eq_true rfl) dX7_march_95 rfl rfl (fun r30 v31 H locs hp hw => ?_)
                  have hF := hF.trans (kb2_some hp _)
                  exact hret _ _ _ _ _ _ hw dX7_march_98 hF
              · skip
                have hF := hF.trans (if_neg c17)
                refine lv_aload_n hx hb dX7_march_62 rfl (lv_at hl 1 rfl) ?_
                refine lv_iload hx hb dX7_march_63 (lv_at hl 0 rfl) ?_
                have hs32 : g_X7_found v r15 ≠ none := fun q => hs (hF.trans (kb2_n q _))
                refine km_cI (As := [.int r15]) (rest := []) (n := 1) (q := (RX7, TX7, 9)) (ci := 7) (t := 0) (i := 0) ⟨hx, hb, hml, hown, hts⟩ (d_X7_found l E Z v r15 hs32) gX7_march_X7_found rfl hV_X7_found ⟨Nat.le_of_ble_eq_true rfl, Nat.le_of_ble_eq_true rfl⟩ hK hw (by decide) (by decide) rfl rfl rfl hl.1 rfl (Nat.le_of_ble_eq_true rfl) dX7_march_65 rfl rfl (fun r33 v34 H locs hp hw => ?_)
                have hF := hF.trans (kb2_some hp _)
                exact hret _ _ _ _ _ _ hw dX7_march_68 hF
            · skip
              have hF := hF.trans (if_neg c12)
              refine lv_ldc (v := (-1000001)) hx hb hown (hts (.constant RX7 59 (-1000001)) ow_X7_march_59) dX7_march_41 ?_
              exact hret _ _ _ _ _ _ hw dX7_march_43 hF
  · skip
    have hF := hF.trans (if_neg c4)
    refine lv_ldc (v := (-1000002)) hx hb hown (hts (.constant RX7 136 (-1000002)) ow_X7_march_136) dX7_march_7 ?_
    exact hret _ _ _ _ _ _ hw dX7_march_9 hF
abbrev rmX7_cheap : Room := { frames := 6, cells := 0, slots := 0, locals := 144 }
def g_X7_cheap (v : Mm) (a1 : Int32) (a2 : Int32) (a3 : Int32) : Option (Int32) := Option.bind (g_X7_noGate v) (fun r2 => if r2 = 0 then (Option.bind (g_X7_areWords v a1) (fun r6 => if r6 = 0 then (some ((-1000001))) else (Option.bind (g_X7_isAhead v a2) (fun r10 => if r10 = 0 then (some ((-1000001))) else (if a3 < 0 then (some ((-1000001))) else (if a3 ≤ 1 then (Option.bind (g_X2_guardsAgainst v 0 a1 a2) (fun r16 => if a3 = 0 then (Option.bind (g_X2_feeOf v 0 r16) (fun r20 => some r20)) else (some r16))) else (some ((-1000001))))))))) else (some ((-1000002))))
set_option maxHeartbeats 4000000 in
set_option maxRecDepth 100000 in
theorem d_X7_cheap (l : Launch) (E : kq_T) (Z : km_Z) (v : Mm) (a1 : Int32) (a2 : Int32) (a3 : Int32) (hs : g_X7_cheap v a1 a2 a3 ≠ none) : km_I l E Z cntX yX7_cheap wsX7_cheap rmX7_cheap [.ref (Z.1 0 0), .int a1, .int a2, .int a3] v (fun r v1 => g_X7_cheap v a1 a2 a3 = some r ∧ v = v1) := by
  refine km_goI (cc := cX7_cheap) (maxL := 5) (by decide) rfl (Nat.le_of_ble_eq_true rfl) rfl rfl rfl ?_
  intro p e s m below meth c A ls Q C hK hw hl hret
  obtain ⟨hx, hb, hml, hown, hts, -, -, -⟩ := C
  have hown : s.vm.findClass RX7 = some m.cls := hown
  have hl : lv_has ls 5 [(0, .ref (Z.1 0 0)), (1, .int a1), (2, .int a2), (3, .int a3)] := hl
  have hF := g_X7_cheap.eq_1 v a1 a2 a3
  refine lv_aload_n hx hb dX7_cheap_0 rfl (lv_at hl 0 rfl) ?_
  have hs1 : g_X7_noGate v ≠ none := fun q => hs (hF.trans (kb_n q _))
  refine km_cI (As := []) (rest := []) (n := 0) (q := (RX7, TX7, 9)) (ci := 7) (t := 0) (i := 0) ⟨hx, hb, hml, hown, hts⟩ (d_X7_noGate l E Z v  hs1) gX7_cheap_X7_noGate rfl hV_X7_noGate ⟨Nat.le_of_ble_eq_true rfl, Nat.le_of_ble_eq_true rfl⟩ hK hw (by decide) (by decide) rfl rfl rfl hl.1 rfl (Nat.le_of_ble_eq_true rfl) dX7_cheap_1 rfl rfl (fun r2 v3 H locs hp hw => ?_)
  obtain ⟨hp, hzr2⟩ := hp
  obtain ⟨hp, rfl⟩ := hp
  have hF := hF.trans (kb_some hp _)
  refine lv_if_eq (tgt := 10) hx hb dX7_cheap_4 (by decide) (fun c4 => ?_) (fun c4 => ?_)
  · skip
    have hF := hF.trans (if_pos c4)
    refine lv_aload_n hx hb dX7_cheap_10 rfl (lv_at hl 0 rfl) ?_
    refine lv_iload_n hx hb dX7_cheap_11 rfl (lv_at hl 1 rfl) ?_
    have hs5 : g_X7_areWords v a1 ≠ none := fun q => hs (hF.trans (kb_n q _))
    refine km_cI (As := [.int a1]) (rest := []) (n := 1) (q := (RX7, TX7, 9)) (ci := 7) (t := 0) (i := 0) ⟨hx, hb, hml, hown, hts⟩ (d_X7_areWords l E Z v a1 hs5) gX7_cheap_X7_areWords rfl hV_X7_areWords ⟨Nat.le_of_ble_eq_true rfl, Nat.le_of_ble_eq_true rfl⟩ hK hw (by decide) (by decide) rfl rfl rfl hl.1 rfl (Nat.le_of_ble_eq_true rfl) dX7_cheap_12 rfl rfl (fun r6 v7 H locs hp hw => ?_)
    obtain ⟨hp, hzr6⟩ := hp
    obtain ⟨hp, rfl⟩ := hp
    have hF := hF.trans (kb_some hp _)
    refine lv_if_eq (tgt := 35) hx hb dX7_cheap_15 (by decide) (fun c8 => ?_) (fun c8 => ?_)
    · skip
      have hF := hF.trans (if_pos c8)
      refine lv_ldc (v := (-1000001)) hx hb hown (hts (.constant RX7 59 (-1000001)) ow_X7_cheap_59) dX7_cheap_35 ?_
      exact hret _ _ _ _ _ _ hw dX7_cheap_37 ⟨hF, rfl⟩
    · skip
      have hF := hF.trans (if_neg c8)
      refine lv_aload_n hx hb dX7_cheap_18 rfl (lv_at hl 0 rfl) ?_
      refine lv_iload_n hx hb dX7_cheap_19 rfl (lv_at hl 2 rfl) ?_
      have hs9 : g_X7_isAhead v a2 ≠ none := fun q => hs (hF.trans (kb_n q _))
      refine km_cI (As := [.int a2]) (rest := []) (n := 1) (q := (RX7, TX7, 9)) (ci := 7) (t := 0) (i := 0) ⟨hx, hb, hml, hown, hts⟩ (d_X7_isAhead l E Z v a2 hs9) gX7_cheap_X7_isAhead rfl hV_X7_isAhead ⟨Nat.le_of_ble_eq_true rfl, Nat.le_of_ble_eq_true rfl⟩ hK hw (by decide) (by decide) rfl rfl rfl hl.1 rfl (Nat.le_of_ble_eq_true rfl) dX7_cheap_20 rfl rfl (fun r10 v11 H locs hp hw => ?_)
      obtain ⟨hp, hzr10⟩ := hp
      obtain ⟨hp, rfl⟩ := hp
      have hF := hF.trans (kb_some hp _)
      refine lv_if_eq (tgt := 35) hx hb dX7_cheap_23 (by decide) (fun c12 => ?_) (fun c12 => ?_)
      · skip
        have hF := hF.trans (if_pos c12)
        refine lv_ldc (v := (-1000001)) hx hb hown (hts (.constant RX7 59 (-1000001)) ow_X7_cheap_59) dX7_cheap_35 ?_
        exact hret _ _ _ _ _ _ hw dX7_cheap_37 ⟨hF, rfl⟩
      · skip
        have hF := hF.trans (if_neg c12)
        refine lv_iload_n hx hb dX7_cheap_26 rfl (lv_at hl 3 rfl) ?_
        refine lv_if_lt (tgt := 35) hx hb dX7_cheap_27 (by decide) (fun c13 => ?_) (fun c13 => ?_)
        · skip
          have hF := hF.trans (if_pos c13)
          refine lv_ldc (v := (-1000001)) hx hb hown (hts (.constant RX7 59 (-1000001)) ow_X7_cheap_59) dX7_cheap_35 ?_
          exact hret _ _ _ _ _ _ hw dX7_cheap_37 ⟨hF, rfl⟩
        · skip
          have hF := hF.trans (if_neg c13)
          refine lv_iload_n hx hb dX7_cheap_30 rfl (lv_at hl 3 rfl) ?_
          refine lv_iconst (v := 1) hx hb dX7_cheap_31 (by decide) ?_
          refine lv_icmp_le (tgt := 38) hx hb dX7_cheap_32 (by decide) (fun c14 => ?_) (fun c14 => ?_)
          · skip
            have hF := hF.trans (if_pos c14)
            refine lv_aload_n hx hb dX7_cheap_38 rfl (lv_at hl 0 rfl) ?_
            refine km_get (ci := 7) (C := RX7) (T := TX7) (N := 9) (t := 0) (i := 0) hx hb hts fi_X7_cheap_X7 hown hK hw (by decide) (by decide) rfl rfl 2 (by decide) (hts (.fieldLink RX7 25 "WrongWord" "gate" "LWrongWord$Gate;") ow_X7_cheap_25) rfl dX7_cheap_39 ?_
            refine lv_iload_n hx hb dX7_cheap_42 rfl (lv_at hl 1 rfl) ?_
            refine lv_iload_n hx hb dX7_cheap_43 rfl (lv_at hl 2 rfl) ?_
            have hs15 : g_X2_guardsAgainst v 0 a1 a2 ≠ none := fun q => hs (hF.trans (kb_n q _))
            refine km_cI (As := [.int a1, .int a2]) (rest := []) (n := 2) (q := (RX2, TX2, 8)) (ci := 2) (t := 6) (i := 0) ⟨hx, hb, hml, hown, hts⟩ (d_X2_guardsAgainst l E Z v 0 (by decide) a1 a2 hs15) gX7_cheap_X2_guardsAgainst rfl hV_X2_guardsAgainst ⟨Nat.le_of_ble_eq_true rfl, Nat.le_of_ble_eq_true rfl⟩ hK hw (by decide) (by decide) rfl rfl rfl hl.1 rfl (Nat.le_of_ble_eq_true rfl) dX7_cheap_44 rfl rfl (fun r16 v17 H locs hp hw => ?_)
            obtain ⟨hp, rfl⟩ := hp
            have hF := hF.trans (kb_some hp _)
            refine lv_istore (lv' := [(4, .int r16), (0, .ref (Z.1 0 0)), (1, .int a1), (2, .int a2), (3, .int a3)]) hx hb dX7_cheap_47 hl (by decide) rfl (fun ls hl => ?_)
            refine lv_iload_n hx hb dX7_cheap_49 rfl (lv_at hl 4 rfl) ?_
            refine lv_if_ne (tgt := 65) hx hb dX7_cheap_50 (by decide) (fun c18 => ?_) (fun c18 => ?_)
            · skip
              have hF := hF.trans (if_neg c18)
              refine lv_iload hx hb dX7_cheap_65 (lv_at hl 0 rfl) ?_
              exact hret _ _ _ _ _ _ hw dX7_cheap_67 ⟨hF, rfl⟩
            · skip
              have hF := hF.trans (if_pos c18)
              refine lv_aload_n hx hb dX7_cheap_53 rfl (lv_at hl 1 rfl) ?_
              refine km_get (ci := 7) (C := RX7) (T := TX7) (N := 9) (t := 0) (i := 0) hx hb hts fi_X7_cheap_X7 hown hK hw (by decide) (by decide) rfl rfl 2 (by decide) (hts (.fieldLink RX7 25 "WrongWord" "gate" "LWrongWord$Gate;") ow_X7_cheap_25) rfl dX7_cheap_54 ?_
              refine lv_iload hx hb dX7_cheap_57 (lv_at hl 0 rfl) ?_
              have hs19 : g_X2_feeOf v 0 r16 ≠ none := fun q => hs (hF.trans (kb_n q _))
              refine km_cI (As := [.int r16]) (rest := []) (n := 1) (q := (RX2, TX2, 8)) (ci := 2) (t := 6) (i := 0) ⟨hx, hb, hml, hown, hts⟩ (d_X2_feeOf l E Z v 0 (by decide) r16 hs19) gX7_cheap_X2_feeOf rfl hV_X2_feeOf ⟨Nat.le_of_ble_eq_true rfl, Nat.le_of_ble_eq_true rfl⟩ hK hw (by decide) (by decide) rfl rfl rfl hl.1 rfl (Nat.le_of_ble_eq_true rfl) dX7_cheap_59 rfl rfl (fun r20 v21 H locs hp hw => ?_)
              obtain ⟨hp, rfl⟩ := hp
              have hF := hF.trans (kb_some hp _)
              refine lv_goto (tgt := 67) hx hb dX7_cheap_62 (by decide) ?_
              exact hret _ _ _ _ _ _ hw dX7_cheap_67 ⟨hF, rfl⟩
          · skip
            have hF := hF.trans (if_neg c14)
            refine lv_ldc (v := (-1000001)) hx hb hown (hts (.constant RX7 59 (-1000001)) ow_X7_cheap_59) dX7_cheap_35 ?_
            exact hret _ _ _ _ _ _ hw dX7_cheap_37 ⟨hF, rfl⟩
  · skip
    have hF := hF.trans (if_neg c4)
    refine lv_ldc (v := (-1000002)) hx hb hown (hts (.constant RX7 136 (-1000002)) ow_X7_cheap_136) dX7_cheap_7 ?_
    exact hret _ _ _ _ _ _ hw dX7_cheap_9 ⟨hF, rfl⟩
abbrev rmX7_near : Room := { frames := 2, cells := 0, slots := 0, locals := 48 }
def g_X7_near (v : Mm) (a1 : Int32) (a2 : Int32) : Option (Int32) := Option.bind (g_X7_isWord v a1) (fun r2 => if r2 = 0 then (some ((-1000001))) else (if a2 < 0 then (some ((-1000001))) else (if a2 ≤ 1 then (Option.bind (g_X2_nearestTo v 0 a1) (fun r8 => if a2 = 0 then (some r8) else (if r8 = (-1000000) then (some r8) else (Option.bind (g_X2_distance v 0 a1 r8) (fun r13 => some r13))))) else (some ((-1000001))))))
set_option maxHeartbeats 4000000 in
set_option maxRecDepth 100000 in
theorem d_X7_near (l : Launch) (E : kq_T) (Z : km_Z) (v : Mm) (a1 : Int32) (a2 : Int32) (hs : g_X7_near v a1 a2 ≠ none) : km_I l E Z cntX yX7_near wsX7_near rmX7_near [.ref (Z.1 0 0), .int a1, .int a2] v (fun r v1 => g_X7_near v a1 a2 = some r ∧ v = v1) := by
  refine km_goI (cc := cX7_near) (maxL := 4) (by decide) rfl (Nat.le_of_ble_eq_true rfl) rfl rfl rfl ?_
  intro p e s m below meth c A ls Q C hK hw hl hret
  obtain ⟨hx, hb, hml, hown, hts, -, -, -⟩ := C
  have hown : s.vm.findClass RX7 = some m.cls := hown
  have hl : lv_has ls 4 [(0, .ref (Z.1 0 0)), (1, .int a1), (2, .int a2)] := hl
  have hF := g_X7_near.eq_1 v a1 a2
  refine lv_aload_n hx hb dX7_near_0 rfl (lv_at hl 0 rfl) ?_
  refine lv_iload_n hx hb dX7_near_1 rfl (lv_at hl 1 rfl) ?_
  have hs1 : g_X7_isWord v a1 ≠ none := fun q => hs (hF.trans (kb_n q _))
  refine km_cI (As := [.int a1]) (rest := []) (n := 1) (q := (RX7, TX7, 9)) (ci := 7) (t := 0) (i := 0) ⟨hx, hb, hml, hown, hts⟩ (d_X7_isWord l E Z v a1 hs1) gX7_near_X7_isWord rfl hV_X7_isWord ⟨Nat.le_of_ble_eq_true rfl, Nat.le_of_ble_eq_true rfl⟩ hK hw (by decide) (by decide) rfl rfl rfl hl.1 rfl (Nat.le_of_ble_eq_true rfl) dX7_near_2 rfl rfl (fun r2 v3 H locs hp hw => ?_)
  obtain ⟨hp, hzr2⟩ := hp
  obtain ⟨hp, rfl⟩ := hp
  have hF := hF.trans (kb_some hp _)
  refine lv_if_eq (tgt := 17) hx hb dX7_near_5 (by decide) (fun c4 => ?_) (fun c4 => ?_)
  · skip
    have hF := hF.trans (if_pos c4)
    refine lv_ldc (v := (-1000001)) hx hb hown (hts (.constant RX7 59 (-1000001)) ow_X7_near_59) dX7_near_17 ?_
    exact hret _ _ _ _ _ _ hw dX7_near_19 ⟨hF, rfl⟩
  · skip
    have hF := hF.trans (if_neg c4)
    refine lv_iload_n hx hb dX7_near_8 rfl (lv_at hl 2 rfl) ?_
    refine lv_if_lt (tgt := 17) hx hb dX7_near_9 (by decide) (fun c5 => ?_) (fun c5 => ?_)
    · skip
      have hF := hF.trans (if_pos c5)
      refine lv_ldc (v := (-1000001)) hx hb hown (hts (.constant RX7 59 (-1000001)) ow_X7_near_59) dX7_near_17 ?_
      exact hret _ _ _ _ _ _ hw dX7_near_19 ⟨hF, rfl⟩
    · skip
      have hF := hF.trans (if_neg c5)
      refine lv_iload_n hx hb dX7_near_12 rfl (lv_at hl 2 rfl) ?_
      refine lv_iconst (v := 1) hx hb dX7_near_13 (by decide) ?_
      refine lv_icmp_le (tgt := 20) hx hb dX7_near_14 (by decide) (fun c6 => ?_) (fun c6 => ?_)
      · skip
        have hF := hF.trans (if_pos c6)
        refine lv_aload_n hx hb dX7_near_20 rfl (lv_at hl 0 rfl) ?_
        refine km_get (ci := 7) (C := RX7) (T := TX7) (N := 9) (t := 0) (i := 0) hx hb hts fi_X7_near_X7 hown hK hw (by decide) (by decide) rfl rfl 2 (by decide) (hts (.fieldLink RX7 25 "WrongWord" "gate" "LWrongWord$Gate;") ow_X7_near_25) rfl dX7_near_21 ?_
        refine lv_iload_n hx hb dX7_near_24 rfl (lv_at hl 1 rfl) ?_
        have hs7 : g_X2_nearestTo v 0 a1 ≠ none := fun q => hs (hF.trans (kb_n q _))
        refine km_cI (As := [.int a1]) (rest := []) (n := 1) (q := (RX2, TX2, 8)) (ci := 2) (t := 6) (i := 0) ⟨hx, hb, hml, hown, hts⟩ (d_X2_nearestTo l E Z v 0 (by decide) a1 hs7) gX7_near_X2_nearestTo rfl hV_X2_nearestTo ⟨Nat.le_of_ble_eq_true rfl, Nat.le_of_ble_eq_true rfl⟩ hK hw (by decide) (by decide) rfl rfl rfl hl.1 rfl (Nat.le_of_ble_eq_true rfl) dX7_near_25 rfl rfl (fun r8 v9 H locs hp hw => ?_)
        obtain ⟨hp, rfl⟩ := hp
        have hF := hF.trans (kb_some hp _)
        refine lv_istore_n (lv' := [(3, .int r8), (0, .ref (Z.1 0 0)), (1, .int a1), (2, .int a2)]) hx hb dX7_near_28 rfl hl (by decide) rfl (fun ls hl => ?_)
        refine lv_iload_n hx hb dX7_near_29 rfl (lv_at hl 3 rfl) ?_
        refine lv_if_eq (tgt := 39) hx hb dX7_near_30 (by decide) (fun c10 => ?_) (fun c10 => ?_)
        · skip
          have hF := hF.trans (if_pos c10)
          refine lv_iload_n hx hb dX7_near_39 rfl (lv_at hl 0 rfl) ?_
          refine lv_goto (tgt := 52) hx hb dX7_near_40 (by decide) ?_
          exact hret _ _ _ _ _ _ hw dX7_near_52 ⟨hF, rfl⟩
        · skip
          have hF := hF.trans (if_neg c10)
          refine lv_iload_n hx hb dX7_near_33 rfl (lv_at hl 0 rfl) ?_
          refine lv_ldc (v := (-1000000)) hx hb hown (hts (.constant RX7 175 (-1000000)) ow_X7_near_175) dX7_near_34 ?_
          refine lv_icmp_ne (tgt := 43) hx hb dX7_near_36 (by decide) (fun c11 => ?_) (fun c11 => ?_)
          · skip
            have hF := hF.trans (if_neg c11)
            refine lv_aload_n hx hb dX7_near_43 rfl (lv_at hl 1 rfl) ?_
            refine km_get (ci := 7) (C := RX7) (T := TX7) (N := 9) (t := 0) (i := 0) hx hb hts fi_X7_near_X7 hown hK hw (by decide) (by decide) rfl rfl 2 (by decide) (hts (.fieldLink RX7 25 "WrongWord" "gate" "LWrongWord$Gate;") ow_X7_near_25) rfl dX7_near_44 ?_
            refine lv_iload_n hx hb dX7_near_47 rfl (lv_at hl 2 rfl) ?_
            refine lv_iload_n hx hb dX7_near_48 rfl (lv_at hl 0 rfl) ?_
            have hs12 : g_X2_distance v 0 a1 r8 ≠ none := fun q => hs (hF.trans (kb_n q _))
            refine km_cI (As := [.int a1, .int r8]) (rest := []) (n := 2) (q := (RX2, TX2, 8)) (ci := 2) (t := 6) (i := 0) ⟨hx, hb, hml, hown, hts⟩ (d_X2_distance l E Z v 0 (by decide) a1 r8 hs12) gX7_near_X2_distance rfl hV_X2_distance ⟨Nat.le_of_ble_eq_true rfl, Nat.le_of_ble_eq_true rfl⟩ hK hw (by decide) (by decide) rfl rfl rfl hl.1 rfl (Nat.le_of_ble_eq_true rfl) dX7_near_49 rfl rfl (fun r13 v14 H locs hp hw => ?_)
            obtain ⟨hp, rfl⟩ := hp
            have hF := hF.trans (kb_some hp _)
            exact hret _ _ _ _ _ _ hw dX7_near_52 ⟨hF, rfl⟩
          · skip
            have hF := hF.trans (if_pos c11)
            refine lv_iload_n hx hb dX7_near_39 rfl (lv_at hl 0 rfl) ?_
            refine lv_goto (tgt := 52) hx hb dX7_near_40 (by decide) ?_
            exact hret _ _ _ _ _ _ hw dX7_near_52 ⟨hF, rfl⟩
      · skip
        have hF := hF.trans (if_neg c6)
        refine lv_ldc (v := (-1000001)) hx hb hown (hts (.constant RX7 59 (-1000001)) ow_X7_near_59) dX7_near_17 ?_
        exact hret _ _ _ _ _ _ hw dX7_near_19 ⟨hF, rfl⟩
abbrev rmX7_rulesThatTell : Room := { frames := 2, cells := 0, slots := 0, locals := 45 }
def b_X7_rulesThatTell_L107 (rec32 : Int32 → Int32 → Int32 → Option (Int32)) (rec107 : Int32 → Int32 → Int32 → Int32 → Int32 → Int32 → Int32 → Int32 → Option (Int32)) (v : Mm) (i1 : Nat) (a2 : Int32) (a3 : Int32) (a4 : Int32) (x5_107 : Int32) (x6_107 : Int32) (x7_107 : Int32) (x8_107 : Int32) (x9_107 : Int32) (x10_107 : Int32) (x11_107 : Int32) (x12_107 : Int32) : Option (Int32) := if a3 ≤ x12_107 then (Option.bind (g_X7_bit v x11_107) (fun r9 => rec32 x5_107 (x6_107 ||| (r9 <<< (x7_107 &&& 31))) (x7_107 + 1))) else (if x11_107 = 0 then (Option.bind (g_X7_bit v x11_107) (fun r13 => rec32 x5_107 (x6_107 ||| (r13 <<< (x7_107 &&& 31))) (x7_107 + 1))) else (Option.bind (g_X2_secretBy v 0 x8_107 x9_107 x10_107 ((v 10 0 4) + x12_107)) (fun r16 => if a2 + x12_107 < 0 ∨ 40 ≤ Int32.toNatClampNeg (a2 + x12_107) then none else (if r16 = v 3 i1 (Int32.toNatClampNeg (a2 + x12_107)) then (rec107 x5_107 x6_107 x7_107 x8_107 x9_107 x10_107 1 (x12_107 + 1)) else (rec107 x5_107 x6_107 x7_107 x8_107 x9_107 x10_107 0 (x12_107 + 1))))))
def g_X7_rulesThatTell_L107 (rec32 : Int32 → Int32 → Int32 → Option (Int32)) (v : Mm) (i1 : Nat) (a2 : Int32) (a3 : Int32) (a4 : Int32) : Nat → Int32 → Int32 → Int32 → Int32 → Int32 → Int32 → Int32 → Int32 → Option (Int32)
  | 0 => fun _ _ _ _ _ _ _ _ => none
  | n + 1 => b_X7_rulesThatTell_L107 rec32 (g_X7_rulesThatTell_L107 rec32 v i1 a2 a3 a4 n) v i1 a2 a3 a4
def b_X7_rulesThatTell_L32  (rec32 : Int32 → Int32 → Int32 → Option (Int32)) (v : Mm) (i1 : Nat) (a2 : Int32) (a3 : Int32) (a4 : Int32) (x5_32 : Int32) (x6_32 : Int32) (x7_32 : Int32) : Option (Int32) := if x5_32 < x7_32 then (some x6_32) else (if a4 = 0 then (if a4 = 1 then (if a4 = 2 then (g_X7_rulesThatTell_L107 rec32 v i1 a2 a3 a4 2000 x5_32 x6_32 x7_32 x7_32 x7_32 x7_32 1 0) else (g_X7_rulesThatTell_L107 rec32 v i1 a2 a3 a4 2000 x5_32 x6_32 x7_32 x7_32 x7_32 (v 6 0 5) 1 0)) else (if a4 = 2 then (g_X7_rulesThatTell_L107 rec32 v i1 a2 a3 a4 2000 x5_32 x6_32 x7_32 x7_32 (v 6 0 4) x7_32 1 0) else (g_X7_rulesThatTell_L107 rec32 v i1 a2 a3 a4 2000 x5_32 x6_32 x7_32 x7_32 (v 6 0 4) (v 6 0 5) 1 0))) else (if a4 = 1 then (if a4 = 2 then (g_X7_rulesThatTell_L107 rec32 v i1 a2 a3 a4 2000 x5_32 x6_32 x7_32 (v 10 0 5) x7_32 x7_32 1 0) else (g_X7_rulesThatTell_L107 rec32 v i1 a2 a3 a4 2000 x5_32 x6_32 x7_32 (v 10 0 5) x7_32 (v 6 0 5) 1 0)) else (if a4 = 2 then (g_X7_rulesThatTell_L107 rec32 v i1 a2 a3 a4 2000 x5_32 x6_32 x7_32 (v 10 0 5) (v 6 0 4) x7_32 1 0) else (g_X7_rulesThatTell_L107 rec32 v i1 a2 a3 a4 2000 x5_32 x6_32 x7_32 (v 10 0 5) (v 6 0 4) (v 6 0 5) 1 0))))
def g_X7_rulesThatTell_L32  (v : Mm) (i1 : Nat) (a2 : Int32) (a3 : Int32) (a4 : Int32) : Nat → Int32 → Int32 → Int32 → Option (Int32)
  | 0 => fun _ _ _ => none
  | n + 1 => b_X7_rulesThatTell_L32  (g_X7_rulesThatTell_L32  v i1 a2 a3 a4 n) v i1 a2 a3 a4
def g_X7_rulesThatTell (v : Mm) (i1 : Nat) (a2 : Int32) (a3 : Int32) (a4 : Int32) : Option (Int32) := if a4 = 2 then (g_X7_rulesThatTell_L32  v i1 a2 a3 a4 2000 6 0 0) else (if a4 = 1 then (g_X7_rulesThatTell_L32  v i1 a2 a3 a4 2000 9 0 0) else (g_X7_rulesThatTell_L32  v i1 a2 a3 a4 2000 9 0 0))
set_option maxHeartbeats 4000000 in
set_option maxRecDepth 100000 in
theorem d_X7_rulesThatTell (l : Launch) (E : kq_T) (Z : km_Z) (v : Mm) (i1 : Nat) (h_i1 : i1 < cntX 2) (a2 : Int32) (a3 : Int32) (a4 : Int32) (hs : g_X7_rulesThatTell v i1 a2 a3 a4 ≠ none) : km_I l E Z cntX yX7_rulesThatTell wsX7_rulesThatTell rmX7_rulesThatTell [.ref (Z.1 0 0), .ref (Z.1 2 i1), .int a2, .int a3, .int a4] v (fun r v1 => g_X7_rulesThatTell v i1 a2 a3 a4 = some r ∧ v = v1) := by
  refine km_goI (cc := cX7_rulesThatTell) (maxL := 13) (by decide) rfl (Nat.le_of_ble_eq_true rfl) rfl rfl rfl ?_
  intro p e s m below meth c A ls Q C hK hw hl hret
  obtain ⟨hx, hb, hml, hown, hts, -, -, -⟩ := C
  have hown : s.vm.findClass RX7 = some m.cls := hown
  have hl : lv_has ls 13 [(0, .ref (Z.1 0 0)), (1, .ref (Z.1 2 i1)), (2, .int a2), (3, .int a3), (4, .int a4)] := hl
  have hF := g_X7_rulesThatTell.eq_1 v i1 a2 a3 a4
  have loop32 : ∀ (n32 : Nat) (x5_32 : Int32) (x6_32 : Int32) (x7_32 : Int32) (H : Heap) (locs : List Loc) (ls : Array Slot), g_X7_rulesThatTell v i1 a2 a3 a4 = g_X7_rulesThatTell_L32  v i1 a2 a3 a4 n32 x5_32 x6_32 x7_32 → km_w E A s.heap [] Z cntX v H locs → lv_has ls 13 [(0, .ref (Z.1 0 0)), (1, .ref (Z.1 2 i1)), (2, .int a2), (3, .int a3), (4, .int a4), (5, .int x5_32), (6, .int x6_32), (7, .int x7_32)] → W p l e rmX7_rulesThatTell s m [.ref (Z.1 0 0), .ref (Z.1 2 i1), .int a2, .int a3, .int a4].toArray below meth c H locs 0 0 Q (F0 m 32 ls []) := by
    intro n32
    induction n32 with
    | zero => intro x5_32 x6_32 x7_32 H locs ls hF hw hl; exact absurd (show g_X7_rulesThatTell v i1 a2 a3 a4 = none from hF) hs
    | succ n32 ih32 =>
      intro x5_32 x6_32 x7_32 H locs ls hF hw hl
      have hF := hF.trans (b_X7_rulesThatTell_L32.eq_1  (g_X7_rulesThatTell_L32  v i1 a2 a3 a4 n32) v i1 a2 a3 a4 x5_32 x6_32 x7_32)
      have loop107 : ∀ (n107 : Nat) (x5_107 : Int32) (x6_107 : Int32) (x7_107 : Int32) (x8_107 : Int32) (x9_107 : Int32) (x10_107 : Int32) (x11_107 : Int32) (x12_107 : Int32) (H : Heap) (locs : List Loc) (ls : Array Slot), g_X7_rulesThatTell v i1 a2 a3 a4 = g_X7_rulesThatTell_L107 (g_X7_rulesThatTell_L32  v i1 a2 a3 a4 n32) v i1 a2 a3 a4 n107 x5_107 x6_107 x7_107 x8_107 x9_107 x10_107 x11_107 x12_107 → km_w E A s.heap [] Z cntX v H locs → lv_has ls 13 [(0, .ref (Z.1 0 0)), (1, .ref (Z.1 2 i1)), (2, .int a2), (3, .int a3), (4, .int a4), (5, .int x5_107), (6, .int x6_107), (7, .int x7_107), (8, .int x8_107), (9, .int x9_107), (10, .int x10_107), (11, .int x11_107), (12, .int x12_107)] → W p l e rmX7_rulesThatTell s m [.ref (Z.1 0 0), .ref (Z.1 2 i1), .int a2, .int a3, .int a4].toArray below meth c H locs 0 0 Q (F0 m 107 ls []) := by
        intro n107
        induction n107 with
        | zero => intro x5_107 x6_107 x7_107 x8_107 x9_107 x10_107 x11_107 x12_107 H locs ls hF hw hl; exact absurd (show g_X7_rulesThatTell v i1 a2 a3 a4 = none from hF) hs
        | succ n107 ih107 =>
          intro x5_107 x6_107 x7_107 x8_107 x9_107 x10_107 x11_107 x12_107 H locs ls hF hw hl
          have hF := hF.trans (b_X7_rulesThatTell_L107.eq_1 (g_X7_rulesThatTell_L32  v i1 a2 a3 a4 n32) (g_X7_rulesThatTell_L107 (g_X7_rulesThatTell_L32  v i1 a2 a3 a4 n32) v i1 a2 a3 a4 n107) v i1 a2 a3 a4 x5_107 x6_107 x7_107 x8_107 x9_107 x10_107 x11_107 x12_107)
          refine lv_iload hx hb dX7_rulesThatTell_107 (lv_at hl 12 rfl) ?_
          refine lv_iload_n hx hb dX7_rulesThatTell_109 rfl (lv_at hl 3 rfl) ?_
          refine lv_icmp_ge (tgt := 169) hx hb dX7_rulesThatTell_110 (by decide) (fun c1 => ?_) (fun c1 => ?_)
          · skip
            have hF := hF.trans (if_pos c1)
            refine lv_iload hx hb dX7_rulesThatTell_169 (lv_at hl 6 rfl) ?_
            refine lv_iload hx hb dX7_rulesThatTell_171 (lv_at hl 11 rfl) ?_
            have hs2 : g_X7_bit v x11_107 ≠ none := fun q => hs (hF.trans (kb_n q _))
            refine km_cS (As := [.int x11_107]) (rest := [.int x6_107]) (n := 1) ⟨hx, hb, hml, hown, hts⟩ (d_X7_bit l E Z v x11_107 hs2) gX7_rulesThatTell_X7_bit rfl hV_X7_bit ⟨Nat.le_of_ble_eq_true rfl, Nat.le_of_ble_eq_true rfl⟩ hK hw rfl hl.1 rfl (Nat.le_of_ble_eq_true rfl) dX7_rulesThatTell_173 rfl rfl (fun r3 v4 H locs hp hw => ?_)
            obtain ⟨hp, rfl⟩ := hp
            have hF := hF.trans (kb_some hp _)
            refine lv_iload hx hb dX7_rulesThatTell_176 (lv_at hl 7 rfl) ?_
            refine lv_ishl hx hb dX7_rulesThatTell_178 ?_
            refine lv_ior hx hb dX7_rulesThatTell_179 ?_
            refine lv_istore (lv' := [(6, .int (x6_107 ||| (r3 <<< (x7_107 &&& 31)))), (0, .ref (Z.1 0 0)), (1, .ref (Z.1 2 i1)), (2, .int a2), (3, .int a3), (4, .int a4), (5, .int x5_107), (7, .int x7_107), (8, .int x8_107), (9, .int x9_107), (10, .int x10_107), (11, .int x11_107), (12, .int x12_107)]) hx hb dX7_rulesThatTell_180 hl (by decide) rfl (fun ls hl => ?_)
            refine lv_iinc (v := x7_107 + 1) (lv' := [(7, .int (x7_107 + 1)), (6, .int (x6_107 ||| (r3 <<< (x7_107 &&& 31)))), (0, .ref (Z.1 0 0)), (1, .ref (Z.1 2 i1)), (2, .int a2), (3, .int a3), (4, .int a4), (5, .int x5_107), (8, .int x8_107), (9, .int x9_107), (10, .int x10_107), (11, .int x11_107), (12, .int x12_107)]) hx hb dX7_rulesThatTell_182 hl (k := 7) rfl rfl (by decide) rfl (fun ls hl => ?_)
            refine lv_goto (tgt := 32) hx hb dX7_rulesThatTell_185 (by decide) ?_
            have hl := lv_sub (l' := [(0, .ref (Z.1 0 0)), (1, .ref (Z.1 2 i1)), (2, .int a2), (3, .int a3), (4, .int a4), (5, .int x5_107), (6, .int (x6_107 ||| (r3 <<< (x7_107 &&& 31)))), (7, .int (x7_107 + 1))]) hl [2, 3, 4, 5, 6, 7, 1, 0] rfl
            exact ih32 x5_107 (x6_107 ||| (r3 <<< (x7_107 &&& 31))) (x7_107 + 1) _ _ _ hF hw hl
          · skip
            have hF := hF.trans (if_neg c1)
            refine lv_iload hx hb dX7_rulesThatTell_113 (lv_at hl 11 rfl) ?_
            refine lv_if_eq (tgt := 169) hx hb dX7_rulesThatTell_115 (by decide) (fun c5 => ?_) (fun c5 => ?_)
            · skip
              have hF := hF.trans (if_pos c5)
              refine lv_iload hx hb dX7_rulesThatTell_169 (lv_at hl 6 rfl) ?_
              refine lv_iload hx hb dX7_rulesThatTell_171 (lv_at hl 11 rfl) ?_
              have hs6 : g_X7_bit v x11_107 ≠ none := fun q => hs (hF.trans (kb_n q _))
              refine km_cS (As := [.int x11_107]) (rest := [.int x6_107]) (n := 1) ⟨hx, hb, hml, hown, hts⟩ (d_X7_bit l E Z v x11_107 hs6) gX7_rulesThatTell_X7_bit rfl hV_X7_bit ⟨Nat.le_of_ble_eq_true rfl, Nat.le_of_ble_eq_true rfl⟩ hK hw rfl hl.1 rfl (Nat.le_of_ble_eq_true rfl) dX7_rulesThatTell_173 rfl rfl (fun r7 v8 H locs hp hw => ?_)
              obtain ⟨hp, rfl⟩ := hp
              have hF := hF.trans (kb_some hp _)
              refine lv_iload hx hb dX7_rulesThatTell_176 (lv_at hl 7 rfl) ?_
              refine lv_ishl hx hb dX7_rulesThatTell_178 ?_
              refine lv_ior hx hb dX7_rulesThatTell_179 ?_
              refine lv_istore (lv' := [(6, .int (x6_107 ||| (r7 <<< (x7_107 &&& 31)))), (0, .ref (Z.1 0 0)), (1, .ref (Z.1 2 i1)), (2, .int a2), (3, .int a3), (4, .int a4), (5, .int x5_107), (7, .int x7_107), (8, .int x8_107), (9, .int x9_107), (10, .int x10_107), (11, .int x11_107), (12, .int x12_107)]) hx hb dX7_rulesThatTell_180 hl (by decide) rfl (fun ls hl => ?_)
              refine lv_iinc (v := x7_107 + 1) (lv' := [(7, .int (x7_107 + 1)), (6, .int (x6_107 ||| (r7 <<< (x7_107 &&& 31)))), (0, .ref (Z.1 0 0)), (1, .ref (Z.1 2 i1)), (2, .int a2), (3, .int a3), (4, .int a4), (5, .int x5_107), (8, .int x8_107), (9, .int x9_107), (10, .int x10_107), (11, .int x11_107), (12, .int x12_107)]) hx hb dX7_rulesThatTell_182 hl (k := 7) rfl rfl (by decide) rfl (fun ls hl => ?_)
              refine lv_goto (tgt := 32) hx hb dX7_rulesThatTell_185 (by decide) ?_
              have hl := lv_sub (l' := [(0, .ref (Z.1 0 0)), (1, .ref (Z.1 2 i1)), (2, .int a2), (3, .int a3), (4, .int a4), (5, .int x5_107), (6, .int (x6_107 ||| (r7 <<< (x7_107 &&& 31)))), (7, .int (x7_107 + 1))]) hl [2, 3, 4, 5, 6, 7, 1, 0] rfl
              exact ih32 x5_107 (x6_107 ||| (r7 <<< (x7_107 &&& 31))) (x7_107 + 1) _ _ _ hF hw hl
            · skip
              have hF := hF.trans (if_neg c5)
              refine lv_aload_n hx hb dX7_rulesThatTell_118 rfl (lv_at hl 0 rfl) ?_
              refine km_get (ci := 7) (C := RX7) (T := TX7) (N := 9) (t := 0) (i := 0) hx hb hts fi_X7_rulesThatTell_X7 hown hK hw (by decide) (by decide) rfl rfl 2 (by decide) (hts (.fieldLink RX7 25 "WrongWord" "gate" "LWrongWord$Gate;") ow_X7_rulesThatTell_25) rfl dX7_rulesThatTell_119 ?_
              refine lv_iload hx hb dX7_rulesThatTell_122 (lv_at hl 8 rfl) ?_
              refine lv_iload hx hb dX7_rulesThatTell_124 (lv_at hl 9 rfl) ?_
              refine lv_iload hx hb dX7_rulesThatTell_126 (lv_at hl 10 rfl) ?_
              refine lv_aload_n hx hb dX7_rulesThatTell_128 rfl (lv_at hl 0 rfl) ?_
              refine km_get (ci := 7) (C := RX7) (T := TX7) (N := 9) (t := 0) (i := 0) hx hb hts fi_X7_rulesThatTell_X7 hown hK hw (by decide) (by decide) rfl rfl 2 (by decide) (hts (.fieldLink RX7 25 "WrongWord" "gate" "LWrongWord$Gate;") ow_X7_rulesThatTell_25) rfl dX7_rulesThatTell_129 ?_
              refine km_get (ci := 2) (C := RX2) (T := TX2) (N := 8) (t := 6) (i := 0) hx hb hts fi_X7_rulesThatTell_X2 hown hK hw (by decide) (by decide) rfl rfl 3 (by decide) (hts (.fieldLink RX7 137 "WrongWord$Gate" "now" "LWrongWord$Moment;") ow_X7_rulesThatTell_137) rfl dX7_rulesThatTell_132 ?_
              refine km_get (ci := 4) (C := RX4) (T := TX4) (N := 8) (t := 10) (i := 0) hx hb hts fi_X7_rulesThatTell_X4 hown hK hw (by decide) (by decide) rfl rfl 4 (by decide) (hts (.fieldLink RX7 141 "WrongWord$Moment" "night" "I") ow_X7_rulesThatTell_141) rfl dX7_rulesThatTell_135 ?_
              refine lv_iload hx hb dX7_rulesThatTell_138 (lv_at hl 12 rfl) ?_
              refine lv_iadd hx hb dX7_rulesThatTell_140 ?_
              have hs9 : g_X2_secretBy v 0 x8_107 x9_107 x10_107 ((v 10 0 4) + x12_107) ≠ none := fun q => hs (hF.trans (kb_n q _))
              refine km_cI (As := [.int x8_107, .int x9_107, .int x10_107, .int ((v 10 0 4) + x12_107)]) (rest := []) (n := 4) (q := (RX2, TX2, 8)) (ci := 2) (t := 6) (i := 0) ⟨hx, hb, hml, hown, hts⟩ (d_X2_secretBy l E Z v 0 (by decide) x8_107 x9_107 x10_107 ((v 10 0 4) + x12_107) hs9) gX7_rulesThatTell_X2_secretBy rfl hV_X2_secretBy ⟨Nat.le_of_ble_eq_true rfl, Nat.le_of_ble_eq_true rfl⟩ hK hw (by decide) (by decide) rfl rfl rfl hl.1 rfl (Nat.le_of_ble_eq_true rfl) dX7_rulesThatTell_141 rfl rfl (fun r10 v11 H locs hp hw => ?_)
              obtain ⟨hp, rfl⟩ := hp
              have hF := hF.trans (kb_some hp _)
              refine lv_aload_n hx hb dX7_rulesThatTell_144 rfl (lv_at hl 1 rfl) ?_
              refine km_get (ci := 5) (C := RX5) (T := TX5) (N := 3) (t := 2) (i := i1) hx hb hts fi_X7_rulesThatTell_X5 hown hK hw (by decide) h_i1 rfl rfl 0 (by decide) (hts (.fieldLink RX7 86 "WrongWord$Row" "items" "[I") ow_X7_rulesThatTell_86) rfl dX7_rulesThatTell_145 ?_
              refine lv_iload_n hx hb dX7_rulesThatTell_148 rfl (lv_at hl 2 rfl) ?_
              refine lv_iload hx hb dX7_rulesThatTell_149 (lv_at hl 12 rfl) ?_
              refine lv_iadd hx hb dX7_rulesThatTell_151 ?_
              have hb12 : ¬ (a2 + x12_107 < 0 ∨ 40 ≤ Int32.toNatClampNeg (a2 + x12_107)) := fun q => hs (hF.trans (if_pos q))
              have hF := hF.trans (if_neg hb12)
              refine km_iald (t := 3) (i := i1) hx hb hK hw (by decide) h_i1 rfl hb12 dX7_rulesThatTell_152 ?_
              refine lv_icmp_ne (tgt := 160) hx hb dX7_rulesThatTell_153 (by decide) (fun c13 => ?_) (fun c13 => ?_)
              · skip
                have hF := hF.trans (if_neg c13)
                refine lv_iconst (v := 0) hx hb dX7_rulesThatTell_160 (by decide) ?_
                refine lv_istore (lv' := [(11, .int 0), (0, .ref (Z.1 0 0)), (1, .ref (Z.1 2 i1)), (2, .int a2), (3, .int a3), (4, .int a4), (5, .int x5_107), (6, .int x6_107), (7, .int x7_107), (8, .int x8_107), (9, .int x9_107), (10, .int x10_107), (12, .int x12_107)]) hx hb dX7_rulesThatTell_161 hl (by decide) rfl (fun ls hl => ?_)
                refine lv_iinc (v := x12_107 + 1) (lv' := [(12, .int (x12_107 + 1)), (11, .int 0), (0, .ref (Z.1 0 0)), (1, .ref (Z.1 2 i1)), (2, .int a2), (3, .int a3), (4, .int a4), (5, .int x5_107), (6, .int x6_107), (7, .int x7_107), (8, .int x8_107), (9, .int x9_107), (10, .int x10_107)]) hx hb dX7_rulesThatTell_163 hl (k := 12) rfl rfl (by decide) rfl (fun ls hl => ?_)
                refine lv_goto (tgt := 107) hx hb dX7_rulesThatTell_166 (by decide) ?_
                have hl := lv_sub (l' := [(0, .ref (Z.1 0 0)), (1, .ref (Z.1 2 i1)), (2, .int a2), (3, .int a3), (4, .int a4), (5, .int x5_107), (6, .int x6_107), (7, .int x7_107), (8, .int x8_107), (9, .int x9_107), (10, .int x10_107), (11, .int 0), (12, .int (x12_107 + 1))]) hl [2, 3, 4, 5, 6, 7, 8, 9, 10, 11, 12, 1, 0] rfl
                exact ih107 x5_107 x6_107 x7_107 x8_107 x9_107 x10_107 0 (x12_107 + 1) _ _ _ hF hw hl
              · skip
                have hF := hF.trans (if_pos c13)
                refine lv_iconst (v := 1) hx hb dX7_rulesThatTell_156 (by decide) ?_
                refine lv_goto (tgt := 161) hx hb dX7_rulesThatTell_157 (by decide) ?_
                refine lv_istore (lv' := [(11, .int 1), (0, .ref (Z.1 0 0)), (1, .ref (Z.1 2 i1)), (2, .int a2), (3, .int a3), (4, .int a4), (5, .int x5_107), (6, .int x6_107), (7, .int x7_107), (8, .int x8_107), (9, .int x9_107), (10, .int x10_107), (12, .int x12_107)]) hx hb dX7_rulesThatTell_161 hl (by decide) rfl (fun ls hl => ?_)
                refine lv_iinc (v := x12_107 + 1) (lv' := [(12, .int (x12_107 + 1)), (11, .int 1), (0, .ref (Z.1 0 0)), (1, .ref (Z.1 2 i1)), (2, .int a2), (3, .int a3), (4, .int a4), (5, .int x5_107), (6, .int x6_107), (7, .int x7_107), (8, .int x8_107), (9, .int x9_107), (10, .int x10_107)]) hx hb dX7_rulesThatTell_163 hl (k := 12) rfl rfl (by decide) rfl (fun ls hl => ?_)
                refine lv_goto (tgt := 107) hx hb dX7_rulesThatTell_166 (by decide) ?_
                have hl := lv_sub (l' := [(0, .ref (Z.1 0 0)), (1, .ref (Z.1 2 i1)), (2, .int a2), (3, .int a3), (4, .int a4), (5, .int x5_107), (6, .int x6_107), (7, .int x7_107), (8, .int x8_107), (9, .int x9_107), (10, .int x10_107), (11, .int 1), (12, .int (x12_107 + 1))]) hl [2, 3, 4, 5, 6, 7, 8, 9, 10, 11, 12, 1, 0] rfl
                exact ih107 x5_107 x6_107 x7_107 x8_107 x9_107 x10_107 1 (x12_107 + 1) _ _ _ hF hw hl
      refine lv_iload hx hb dX7_rulesThatTell_32 (lv_at hl 7 rfl) ?_
      refine lv_iload hx hb dX7_rulesThatTell_34 (lv_at hl 5 rfl) ?_
      refine lv_icmp_gt (tgt := 188) hx hb dX7_rulesThatTell_36 (by decide) (fun c14 => ?_) (fun c14 => ?_)
      · skip
        have hF := hF.trans (if_pos c14)
        refine lv_iload hx hb dX7_rulesThatTell_188 (lv_at hl 6 rfl) ?_
        exact hret _ _ _ _ _ _ hw dX7_rulesThatTell_190 ⟨hF, rfl⟩
      · skip
        have hF := hF.trans (if_neg c14)
        refine lv_iload hx hb dX7_rulesThatTell_39 (lv_at hl 4 rfl) ?_
        refine lv_if_ne (tgt := 49) hx hb dX7_rulesThatTell_41 (by decide) (fun c15 => ?_) (fun c15 => ?_)
        · skip
          have hF := hF.trans (if_neg c15)
          refine lv_aload_n hx hb dX7_rulesThatTell_49 rfl (lv_at hl 0 rfl) ?_
          refine km_get (ci := 7) (C := RX7) (T := TX7) (N := 9) (t := 0) (i := 0) hx hb hts fi_X7_rulesThatTell_X7 hown hK hw (by decide) (by decide) rfl rfl 2 (by decide) (hts (.fieldLink RX7 25 "WrongWord" "gate" "LWrongWord$Gate;") ow_X7_rulesThatTell_25) rfl dX7_rulesThatTell_50 ?_
          refine km_get (ci := 2) (C := RX2) (T := TX2) (N := 8) (t := 6) (i := 0) hx hb hts fi_X7_rulesThatTell_X2 hown hK hw (by decide) (by decide) rfl rfl 3 (by decide) (hts (.fieldLink RX7 137 "WrongWord$Gate" "now" "LWrongWord$Moment;") ow_X7_rulesThatTell_137) rfl dX7_rulesThatTell_53 ?_
          refine km_get (ci := 4) (C := RX4) (T := TX4) (N := 8) (t := 10) (i := 0) hx hb hts fi_X7_rulesThatTell_X4 hown hK hw (by decide) (by decide) rfl rfl 5 (by decide) (hts (.fieldLink RX7 184 "WrongWord$Moment" "start" "I") ow_X7_rulesThatTell_184) rfl dX7_rulesThatTell_56 ?_
          refine lv_istore (lv' := [(8, .int (v 10 0 5)), (0, .ref (Z.1 0 0)), (1, .ref (Z.1 2 i1)), (2, .int a2), (3, .int a3), (4, .int a4), (5, .int x5_32), (6, .int x6_32), (7, .int x7_32)]) hx hb dX7_rulesThatTell_59 hl (by decide) rfl (fun ls hl => ?_)
          refine lv_iload hx hb dX7_rulesThatTell_61 (lv_at hl 5 rfl) ?_
          refine lv_iconst (v := 1) hx hb dX7_rulesThatTell_63 (by decide) ?_
          refine lv_icmp_ne (tgt := 72) hx hb dX7_rulesThatTell_64 (by decide) (fun c16 => ?_) (fun c16 => ?_)
          · skip
            have hF := hF.trans (if_neg c16)
            refine lv_aload_n hx hb dX7_rulesThatTell_72 rfl (lv_at hl 1 rfl) ?_
            refine km_get (ci := 7) (C := RX7) (T := TX7) (N := 9) (t := 0) (i := 0) hx hb hts fi_X7_rulesThatTell_X7 hown hK hw (by decide) (by decide) rfl rfl 2 (by decide) (hts (.fieldLink RX7 25 "WrongWord" "gate" "LWrongWord$Gate;") ow_X7_rulesThatTell_25) rfl dX7_rulesThatTell_73 ?_
            refine km_get (ci := 2) (C := RX2) (T := TX2) (N := 8) (t := 6) (i := 0) hx hb hts fi_X7_rulesThatTell_X2 hown hK hw (by decide) (by decide) rfl rfl 4 (by decide) (hts (.fieldLink RX7 340 "WrongWord$Gate" "step" "I") ow_X7_rulesThatTell_340) rfl dX7_rulesThatTell_76 ?_
            refine lv_istore (lv' := [(9, .int (v 6 0 4)), (8, .int (v 10 0 5)), (0, .ref (Z.1 0 0)), (1, .ref (Z.1 2 i1)), (2, .int a2), (3, .int a3), (4, .int a4), (5, .int x5_32), (6, .int x6_32), (7, .int x7_32)]) hx hb dX7_rulesThatTell_79 hl (by decide) rfl (fun ls hl => ?_)
            refine lv_iload hx hb dX7_rulesThatTell_81 (lv_at hl 6 rfl) ?_
            refine lv_iconst (v := 2) hx hb dX7_rulesThatTell_83 (by decide) ?_
            refine lv_icmp_ne (tgt := 92) hx hb dX7_rulesThatTell_84 (by decide) (fun c17 => ?_) (fun c17 => ?_)
            · skip
              have hF := hF.trans (if_neg c17)
              refine lv_aload_n hx hb dX7_rulesThatTell_92 rfl (lv_at hl 2 rfl) ?_
              refine km_get (ci := 7) (C := RX7) (T := TX7) (N := 9) (t := 0) (i := 0) hx hb hts fi_X7_rulesThatTell_X7 hown hK hw (by decide) (by decide) rfl rfl 2 (by decide) (hts (.fieldLink RX7 25 "WrongWord" "gate" "LWrongWord$Gate;") ow_X7_rulesThatTell_25) rfl dX7_rulesThatTell_93 ?_
              refine km_get (ci := 2) (C := RX2) (T := TX2) (N := 8) (t := 6) (i := 0) hx hb hts fi_X7_rulesThatTell_X2 hown hK hw (by decide) (by decide) rfl rfl 5 (by decide) (hts (.fieldLink RX7 343 "WrongWord$Gate" "shrove" "I") ow_X7_rulesThatTell_343) rfl dX7_rulesThatTell_96 ?_
              refine lv_istore (lv' := [(10, .int (v 6 0 5)), (9, .int (v 6 0 4)), (8, .int (v 10 0 5)), (0, .ref (Z.1 0 0)), (1, .ref (Z.1 2 i1)), (2, .int a2), (3, .int a3), (4, .int a4), (5, .int x5_32), (6, .int x6_32), (7, .int x7_32)]) hx hb dX7_rulesThatTell_99 hl (by decide) rfl (fun ls hl => ?_)
              refine lv_iconst (v := 1) hx hb dX7_rulesThatTell_101 (by decide) ?_
              refine lv_istore (lv' := [(11, .int 1), (10, .int (v 6 0 5)), (9, .int (v 6 0 4)), (8, .int (v 10 0 5)), (0, .ref (Z.1 0 0)), (1, .ref (Z.1 2 i1)), (2, .int a2), (3, .int a3), (4, .int a4), (5, .int x5_32), (6, .int x6_32), (7, .int x7_32)]) hx hb dX7_rulesThatTell_102 hl (by decide) rfl (fun ls hl => ?_)
              refine lv_iconst (v := 0) hx hb dX7_rulesThatTell_104 (by decide) ?_
              refine lv_istore (lv' := [(12, .int 0), (11, .int 1), (10, .int (v 6 0 5)), (9, .int (v 6 0 4)), (8, .int (v 10 0 5)), (0, .ref (Z.1 0 0)), (1, .ref (Z.1 2 i1)), (2, .int a2), (3, .int a3), (4, .int a4), (5, .int x5_32), (6, .int x6_32), (7, .int x7_32)]) hx hb dX7_rulesThatTell_105 hl (by decide) rfl (fun ls hl => ?_)
              have hl := lv_sub (l' := [(0, .ref (Z.1 0 0)), (1, .ref (Z.1 2 i1)), (2, .int a2), (3, .int a3), (4, .int a4), (5, .int x5_32), (6, .int x6_32), (7, .int x7_32), (8, .int (v 10 0 5)), (9, .int (v 6 0 4)), (10, .int (v 6 0 5)), (11, .int 1), (12, .int 0)]) hl [5, 6, 7, 8, 9, 10, 11, 12, 4, 3, 2, 1, 0] rfl
              exact loop107 2000 x5_32 x6_32 x7_32 (v 10 0 5) (v 6 0 4) (v 6 0 5) 1 0 _ _ _ hF hw hl
            · skip
              have hF := hF.trans (if_pos c17)
              refine lv_iload hx hb dX7_rulesThatTell_87 (lv_at hl 9 rfl) ?_
              refine lv_goto (tgt := 99) hx hb dX7_rulesThatTell_89 (by decide) ?_
              refine lv_istore (lv' := [(10, .int x7_32), (9, .int (v 6 0 4)), (8, .int (v 10 0 5)), (0, .ref (Z.1 0 0)), (1, .ref (Z.1 2 i1)), (2, .int a2), (3, .int a3), (4, .int a4), (5, .int x5_32), (6, .int x6_32), (7, .int x7_32)]) hx hb dX7_rulesThatTell_99 hl (by decide) rfl (fun ls hl => ?_)
              refine lv_iconst (v := 1) hx hb dX7_rulesThatTell_101 (by decide) ?_
              refine lv_istore (lv' := [(11, .int 1), (10, .int x7_32), (9, .int (v 6 0 4)), (8, .int (v 10 0 5)), (0, .ref (Z.1 0 0)), (1, .ref (Z.1 2 i1)), (2, .int a2), (3, .int a3), (4, .int a4), (5, .int x5_32), (6, .int x6_32), (7, .int x7_32)]) hx hb dX7_rulesThatTell_102 hl (by decide) rfl (fun ls hl => ?_)
              refine lv_iconst (v := 0) hx hb dX7_rulesThatTell_104 (by decide) ?_
              refine lv_istore (lv' := [(12, .int 0), (11, .int 1), (10, .int x7_32), (9, .int (v 6 0 4)), (8, .int (v 10 0 5)), (0, .ref (Z.1 0 0)), (1, .ref (Z.1 2 i1)), (2, .int a2), (3, .int a3), (4, .int a4), (5, .int x5_32), (6, .int x6_32), (7, .int x7_32)]) hx hb dX7_rulesThatTell_105 hl (by decide) rfl (fun ls hl => ?_)
              have hl := lv_sub (l' := [(0, .ref (Z.1 0 0)), (1, .ref (Z.1 2 i1)), (2, .int a2), (3, .int a3), (4, .int a4), (5, .int x5_32), (6, .int x6_32), (7, .int x7_32), (8, .int (v 10 0 5)), (9, .int (v 6 0 4)), (10, .int x7_32), (11, .int 1), (12, .int 0)]) hl [5, 6, 7, 8, 9, 10, 11, 12, 4, 3, 2, 1, 0] rfl
              exact loop107 2000 x5_32 x6_32 x7_32 (v 10 0 5) (v 6 0 4) x7_32 1 0 _ _ _ hF hw hl
          · skip
            have hF := hF.trans (if_pos c16)
            refine lv_iload hx hb dX7_rulesThatTell_67 (lv_at hl 8 rfl) ?_
            refine lv_goto (tgt := 79) hx hb dX7_rulesThatTell_69 (by decide) ?_
            refine lv_istore (lv' := [(9, .int x7_32), (8, .int (v 10 0 5)), (0, .ref (Z.1 0 0)), (1, .ref (Z.1 2 i1)), (2, .int a2), (3, .int a3), (4, .int a4), (5, .int x5_32), (6, .int x6_32), (7, .int x7_32)]) hx hb dX7_rulesThatTell_79 hl (by decide) rfl (fun ls hl => ?_)
            refine lv_iload hx hb dX7_rulesThatTell_81 (lv_at hl 6 rfl) ?_
            refine lv_iconst (v := 2) hx hb dX7_rulesThatTell_83 (by decide) ?_
            refine lv_icmp_ne (tgt := 92) hx hb dX7_rulesThatTell_84 (by decide) (fun c18 => ?_) (fun c18 => ?_)
            · skip
              have hF := hF.trans (if_neg c18)
              refine lv_aload_n hx hb dX7_rulesThatTell_92 rfl (lv_at hl 2 rfl) ?_
              refine km_get (ci := 7) (C := RX7) (T := TX7) (N := 9) (t := 0) (i := 0) hx hb hts fi_X7_rulesThatTell_X7 hown hK hw (by decide) (by decide) rfl rfl 2 (by decide) (hts (.fieldLink RX7 25 "WrongWord" "gate" "LWrongWord$Gate;") ow_X7_rulesThatTell_25) rfl dX7_rulesThatTell_93 ?_
              refine km_get (ci := 2) (C := RX2) (T := TX2) (N := 8) (t := 6) (i := 0) hx hb hts fi_X7_rulesThatTell_X2 hown hK hw (by decide) (by decide) rfl rfl 5 (by decide) (hts (.fieldLink RX7 343 "WrongWord$Gate" "shrove" "I") ow_X7_rulesThatTell_343) rfl dX7_rulesThatTell_96 ?_
              refine lv_istore (lv' := [(10, .int (v 6 0 5)), (9, .int x7_32), (8, .int (v 10 0 5)), (0, .ref (Z.1 0 0)), (1, .ref (Z.1 2 i1)), (2, .int a2), (3, .int a3), (4, .int a4), (5, .int x5_32), (6, .int x6_32), (7, .int x7_32)]) hx hb dX7_rulesThatTell_99 hl (by decide) rfl (fun ls hl => ?_)
              refine lv_iconst (v := 1) hx hb dX7_rulesThatTell_101 (by decide) ?_
              refine lv_istore (lv' := [(11, .int 1), (10, .int (v 6 0 5)), (9, .int x7_32), (8, .int (v 10 0 5)), (0, .ref (Z.1 0 0)), (1, .ref (Z.1 2 i1)), (2, .int a2), (3, .int a3), (4, .int a4), (5, .int x5_32), (6, .int x6_32), (7, .int x7_32)]) hx hb dX7_rulesThatTell_102 hl (by decide) rfl (fun ls hl => ?_)
              refine lv_iconst (v := 0) hx hb dX7_rulesThatTell_104 (by decide) ?_
              refine lv_istore (lv' := [(12, .int 0), (11, .int 1), (10, .int (v 6 0 5)), (9, .int x7_32), (8, .int (v 10 0 5)), (0, .ref (Z.1 0 0)), (1, .ref (Z.1 2 i1)), (2, .int a2), (3, .int a3), (4, .int a4), (5, .int x5_32), (6, .int x6_32), (7, .int x7_32)]) hx hb dX7_rulesThatTell_105 hl (by decide) rfl (fun ls hl => ?_)
              have hl := lv_sub (l' := [(0, .ref (Z.1 0 0)), (1, .ref (Z.1 2 i1)), (2, .int a2), (3, .int a3), (4, .int a4), (5, .int x5_32), (6, .int x6_32), (7, .int x7_32), (8, .int (v 10 0 5)), (9, .int x7_32), (10, .int (v 6 0 5)), (11, .int 1), (12, .int 0)]) hl [5, 6, 7, 8, 9, 10, 11, 12, 4, 3, 2, 1, 0] rfl
              exact loop107 2000 x5_32 x6_32 x7_32 (v 10 0 5) x7_32 (v 6 0 5) 1 0 _ _ _ hF hw hl
            · skip
              have hF := hF.trans (if_pos c18)
              refine lv_iload hx hb dX7_rulesThatTell_87 (lv_at hl 9 rfl) ?_
              refine lv_goto (tgt := 99) hx hb dX7_rulesThatTell_89 (by decide) ?_
              refine lv_istore (lv' := [(10, .int x7_32), (9, .int x7_32), (8, .int (v 10 0 5)), (0, .ref (Z.1 0 0)), (1, .ref (Z.1 2 i1)), (2, .int a2), (3, .int a3), (4, .int a4), (5, .int x5_32), (6, .int x6_32), (7, .int x7_32)]) hx hb dX7_rulesThatTell_99 hl (by decide) rfl (fun ls hl => ?_)
              refine lv_iconst (v := 1) hx hb dX7_rulesThatTell_101 (by decide) ?_
              refine lv_istore (lv' := [(11, .int 1), (10, .int x7_32), (9, .int x7_32), (8, .int (v 10 0 5)), (0, .ref (Z.1 0 0)), (1, .ref (Z.1 2 i1)), (2, .int a2), (3, .int a3), (4, .int a4), (5, .int x5_32), (6, .int x6_32), (7, .int x7_32)]) hx hb dX7_rulesThatTell_102 hl (by decide) rfl (fun ls hl => ?_)
              refine lv_iconst (v := 0) hx hb dX7_rulesThatTell_104 (by decide) ?_
              refine lv_istore (lv' := [(12, .int 0), (11, .int 1), (10, .int x7_32), (9, .int x7_32), (8, .int (v 10 0 5)), (0, .ref (Z.1 0 0)), (1, .ref (Z.1 2 i1)), (2, .int a2), (3, .int a3), (4, .int a4), (5, .int x5_32), (6, .int x6_32), (7, .int x7_32)]) hx hb dX7_rulesThatTell_105 hl (by decide) rfl (fun ls hl => ?_)
              have hl := lv_sub (l' := [(0, .ref (Z.1 0 0)), (1, .ref (Z.1 2 i1)), (2, .int a2), (3, .int a3), (4, .int a4), (5, .int x5_32), (6, .int x6_32), (7, .int x7_32), (8, .int (v 10 0 5)), (9, .int x7_32), (10, .int x7_32), (11, .int 1), (12, .int 0)]) hl [5, 6, 7, 8, 9, 10, 11, 12, 4, 3, 2, 1, 0] rfl
              exact loop107 2000 x5_32 x6_32 x7_32 (v 10 0 5) x7_32 x7_32 1 0 _ _ _ hF hw hl
        · skip
          have hF := hF.trans (if_pos c15)
          refine lv_iload hx hb dX7_rulesThatTell_44 (lv_at hl 7 rfl) ?_
          refine lv_goto (tgt := 59) hx hb dX7_rulesThatTell_46 (by decide) ?_
          refine lv_istore (lv' := [(8, .int x7_32), (0, .ref (Z.1 0 0)), (1, .ref (Z.1 2 i1)), (2, .int a2), (3, .int a3), (4, .int a4), (5, .int x5_32), (6, .int x6_32), (7, .int x7_32)]) hx hb dX7_rulesThatTell_59 hl (by decide) rfl (fun ls hl => ?_)
          refine lv_iload hx hb dX7_rulesThatTell_61 (lv_at hl 5 rfl) ?_
          refine lv_iconst (v := 1) hx hb dX7_rulesThatTell_63 (by decide) ?_
          refine lv_icmp_ne (tgt := 72) hx hb dX7_rulesThatTell_64 (by decide) (fun c19 => ?_) (fun c19 => ?_)
          · skip
            have hF := hF.trans (if_neg c19)
            refine lv_aload_n hx hb dX7_rulesThatTell_72 rfl (lv_at hl 1 rfl) ?_
            refine km_get (ci := 7) (C := RX7) (T := TX7) (N := 9) (t := 0) (i := 0) hx hb hts fi_X7_rulesThatTell_X7 hown hK hw (by decide) (by decide) rfl rfl 2 (by decide) (hts (.fieldLink RX7 25 "WrongWord" "gate" "LWrongWord$Gate;") ow_X7_rulesThatTell_25) rfl dX7_rulesThatTell_73 ?_
            refine km_get (ci := 2) (C := RX2) (T := TX2) (N := 8) (t := 6) (i := 0) hx hb hts fi_X7_rulesThatTell_X2 hown hK hw (by decide) (by decide) rfl rfl 4 (by decide) (hts (.fieldLink RX7 340 "WrongWord$Gate" "step" "I") ow_X7_rulesThatTell_340) rfl dX7_rulesThatTell_76 ?_
            refine lv_istore (lv' := [(9, .int (v 6 0 4)), (8, .int x7_32), (0, .ref (Z.1 0 0)), (1, .ref (Z.1 2 i1)), (2, .int a2), (3, .int a3), (4, .int a4), (5, .int x5_32), (6, .int x6_32), (7, .int x7_32)]) hx hb dX7_rulesThatTell_79 hl (by decide) rfl (fun ls hl => ?_)
            refine lv_iload hx hb dX7_rulesThatTell_81 (lv_at hl 6 rfl) ?_
            refine lv_iconst (v := 2) hx hb dX7_rulesThatTell_83 (by decide) ?_
            refine lv_icmp_ne (tgt := 92) hx hb dX7_rulesThatTell_84 (by decide) (fun c20 => ?_) (fun c20 => ?_)
            · skip
              have hF := hF.trans (if_neg c20)
              refine lv_aload_n hx hb dX7_rulesThatTell_92 rfl (lv_at hl 2 rfl) ?_
              refine km_get (ci := 7) (C := RX7) (T := TX7) (N := 9) (t := 0) (i := 0) hx hb hts fi_X7_rulesThatTell_X7 hown hK hw (by decide) (by decide) rfl rfl 2 (by decide) (hts (.fieldLink RX7 25 "WrongWord" "gate" "LWrongWord$Gate;") ow_X7_rulesThatTell_25) rfl dX7_rulesThatTell_93 ?_
              refine km_get (ci := 2) (C := RX2) (T := TX2) (N := 8) (t := 6) (i := 0) hx hb hts fi_X7_rulesThatTell_X2 hown hK hw (by decide) (by decide) rfl rfl 5 (by decide) (hts (.fieldLink RX7 343 "WrongWord$Gate" "shrove" "I") ow_X7_rulesThatTell_343) rfl dX7_rulesThatTell_96 ?_
              refine lv_istore (lv' := [(10, .int (v 6 0 5)), (9, .int (v 6 0 4)), (8, .int x7_32), (0, .ref (Z.1 0 0)), (1, .ref (Z.1 2 i1)), (2, .int a2), (3, .int a3), (4, .int a4), (5, .int x5_32), (6, .int x6_32), (7, .int x7_32)]) hx hb dX7_rulesThatTell_99 hl (by decide) rfl (fun ls hl => ?_)
              refine lv_iconst (v := 1) hx hb dX7_rulesThatTell_101 (by decide) ?_
              refine lv_istore (lv' := [(11, .int 1), (10, .int (v 6 0 5)), (9, .int (v 6 0 4)), (8, .int x7_32), (0, .ref (Z.1 0 0)), (1, .ref (Z.1 2 i1)), (2, .int a2), (3, .int a3), (4, .int a4), (5, .int x5_32), (6, .int x6_32), (7, .int x7_32)]) hx hb dX7_rulesThatTell_102 hl (by decide) rfl (fun ls hl => ?_)
              refine lv_iconst (v := 0) hx hb dX7_rulesThatTell_104 (by decide) ?_
              refine lv_istore (lv' := [(12, .int 0), (11, .int 1), (10, .int (v 6 0 5)), (9, .int (v 6 0 4)), (8, .int x7_32), (0, .ref (Z.1 0 0)), (1, .ref (Z.1 2 i1)), (2, .int a2), (3, .int a3), (4, .int a4), (5, .int x5_32), (6, .int x6_32), (7, .int x7_32)]) hx hb dX7_rulesThatTell_105 hl (by decide) rfl (fun ls hl => ?_)
              have hl := lv_sub (l' := [(0, .ref (Z.1 0 0)), (1, .ref (Z.1 2 i1)), (2, .int a2), (3, .int a3), (4, .int a4), (5, .int x5_32), (6, .int x6_32), (7, .int x7_32), (8, .int x7_32), (9, .int (v 6 0 4)), (10, .int (v 6 0 5)), (11, .int 1), (12, .int 0)]) hl [5, 6, 7, 8, 9, 10, 11, 12, 4, 3, 2, 1, 0] rfl
              exact loop107 2000 x5_32 x6_32 x7_32 x7_32 (v 6 0 4) (v 6 0 5) 1 0 _ _ _ hF hw hl
            · skip
              have hF := hF.trans (if_pos c20)
              refine lv_iload hx hb dX7_rulesThatTell_87 (lv_at hl 9 rfl) ?_
              refine lv_goto (tgt := 99) hx hb dX7_rulesThatTell_89 (by decide) ?_
              refine lv_istore (lv' := [(10, .int x7_32), (9, .int (v 6 0 4)), (8, .int x7_32), (0, .ref (Z.1 0 0)), (1, .ref (Z.1 2 i1)), (2, .int a2), (3, .int a3), (4, .int a4), (5, .int x5_32), (6, .int x6_32), (7, .int x7_32)]) hx hb dX7_rulesThatTell_99 hl (by decide) rfl (fun ls hl => ?_)
              refine lv_iconst (v := 1) hx hb dX7_rulesThatTell_101 (by decide) ?_
              refine lv_istore (lv' := [(11, .int 1), (10, .int x7_32), (9, .int (v 6 0 4)), (8, .int x7_32), (0, .ref (Z.1 0 0)), (1, .ref (Z.1 2 i1)), (2, .int a2), (3, .int a3), (4, .int a4), (5, .int x5_32), (6, .int x6_32), (7, .int x7_32)]) hx hb dX7_rulesThatTell_102 hl (by decide) rfl (fun ls hl => ?_)
              refine lv_iconst (v := 0) hx hb dX7_rulesThatTell_104 (by decide) ?_
              refine lv_istore (lv' := [(12, .int 0), (11, .int 1), (10, .int x7_32), (9, .int (v 6 0 4)), (8, .int x7_32), (0, .ref (Z.1 0 0)), (1, .ref (Z.1 2 i1)), (2, .int a2), (3, .int a3), (4, .int a4), (5, .int x5_32), (6, .int x6_32), (7, .int x7_32)]) hx hb dX7_rulesThatTell_105 hl (by decide) rfl (fun ls hl => ?_)
              have hl := lv_sub (l' := [(0, .ref (Z.1 0 0)), (1, .ref (Z.1 2 i1)), (2, .int a2), (3, .int a3), (4, .int a4), (5, .int x5_32), (6, .int x6_32), (7, .int x7_32), (8, .int x7_32), (9, .int (v 6 0 4)), (10, .int x7_32), (11, .int 1), (12, .int 0)]) hl [5, 6, 7, 8, 9, 10, 11, 12, 4, 3, 2, 1, 0] rfl
              exact loop107 2000 x5_32 x6_32 x7_32 x7_32 (v 6 0 4) x7_32 1 0 _ _ _ hF hw hl
          · skip
            have hF := hF.trans (if_pos c19)
            refine lv_iload hx hb dX7_rulesThatTell_67 (lv_at hl 8 rfl) ?_
            refine lv_goto (tgt := 79) hx hb dX7_rulesThatTell_69 (by decide) ?_
            refine lv_istore (lv' := [(9, .int x7_32), (8, .int x7_32), (0, .ref (Z.1 0 0)), (1, .ref (Z.1 2 i1)), (2, .int a2), (3, .int a3), (4, .int a4), (5, .int x5_32), (6, .int x6_32), (7, .int x7_32)]) hx hb dX7_rulesThatTell_79 hl (by decide) rfl (fun ls hl => ?_)
            refine lv_iload hx hb dX7_rulesThatTell_81 (lv_at hl 6 rfl) ?_
            refine lv_iconst (v := 2) hx hb dX7_rulesThatTell_83 (by decide) ?_
            refine lv_icmp_ne (tgt := 92) hx hb dX7_rulesThatTell_84 (by decide) (fun c21 => ?_) (fun c21 => ?_)
            · skip
              have hF := hF.trans (if_neg c21)
              refine lv_aload_n hx hb dX7_rulesThatTell_92 rfl (lv_at hl 2 rfl) ?_
              refine km_get (ci := 7) (C := RX7) (T := TX7) (N := 9) (t := 0) (i := 0) hx hb hts fi_X7_rulesThatTell_X7 hown hK hw (by decide) (by decide) rfl rfl 2 (by decide) (hts (.fieldLink RX7 25 "WrongWord" "gate" "LWrongWord$Gate;") ow_X7_rulesThatTell_25) rfl dX7_rulesThatTell_93 ?_
              refine km_get (ci := 2) (C := RX2) (T := TX2) (N := 8) (t := 6) (i := 0) hx hb hts fi_X7_rulesThatTell_X2 hown hK hw (by decide) (by decide) rfl rfl 5 (by decide) (hts (.fieldLink RX7 343 "WrongWord$Gate" "shrove" "I") ow_X7_rulesThatTell_343) rfl dX7_rulesThatTell_96 ?_
              refine lv_istore (lv' := [(10, .int (v 6 0 5)), (9, .int x7_32), (8, .int x7_32), (0, .ref (Z.1 0 0)), (1, .ref (Z.1 2 i1)), (2, .int a2), (3, .int a3), (4, .int a4), (5, .int x5_32), (6, .int x6_32), (7, .int x7_32)]) hx hb dX7_rulesThatTell_99 hl (by decide) rfl (fun ls hl => ?_)
              refine lv_iconst (v := 1) hx hb dX7_rulesThatTell_101 (by decide) ?_
              refine lv_istore (lv' := [(11, .int 1), (10, .int (v 6 0 5)), (9, .int x7_32), (8, .int x7_32), (0, .ref (Z.1 0 0)), (1, .ref (Z.1 2 i1)), (2, .int a2), (3, .int a3), (4, .int a4), (5, .int x5_32), (6, .int x6_32), (7, .int x7_32)]) hx hb dX7_rulesThatTell_102 hl (by decide) rfl (fun ls hl => ?_)
              refine lv_iconst (v := 0) hx hb dX7_rulesThatTell_104 (by decide) ?_
              refine lv_istore (lv' := [(12, .int 0), (11, .int 1), (10, .int (v 6 0 5)), (9, .int x7_32), (8, .int x7_32), (0, .ref (Z.1 0 0)), (1, .ref (Z.1 2 i1)), (2, .int a2), (3, .int a3), (4, .int a4), (5, .int x5_32), (6, .int x6_32), (7, .int x7_32)]) hx hb dX7_rulesThatTell_105 hl (by decide) rfl (fun ls hl => ?_)
              have hl := lv_sub (l' := [(0, .ref (Z.1 0 0)), (1, .ref (Z.1 2 i1)), (2, .int a2), (3, .int a3), (4, .int a4), (5, .int x5_32), (6, .int x6_32), (7, .int x7_32), (8, .int x7_32), (9, .int x7_32), (10, .int (v 6 0 5)), (11, .int 1), (12, .int 0)]) hl [5, 6, 7, 8, 9, 10, 11, 12, 4, 3, 2, 1, 0] rfl
              exact loop107 2000 x5_32 x6_32 x7_32 x7_32 x7_32 (v 6 0 5) 1 0 _ _ _ hF hw hl
            · skip
              have hF := hF.trans (if_pos c21)
              refine lv_iload hx hb dX7_rulesThatTell_87 (lv_at hl 9 rfl) ?_
              refine lv_goto (tgt := 99) hx hb dX7_rulesThatTell_89 (by decide) ?_
              refine lv_istore (lv' := [(10, .int x7_32), (9, .int x7_32), (8, .int x7_32), (0, .ref (Z.1 0 0)), (1, .ref (Z.1 2 i1)), (2, .int a2), (3, .int a3), (4, .int a4), (5, .int x5_32), (6, .int x6_32), (7, .int x7_32)]) hx hb dX7_rulesThatTell_99 hl (by decide) rfl (fun ls hl => ?_)
              refine lv_iconst (v := 1) hx hb dX7_rulesThatTell_101 (by decide) ?_
              refine lv_istore (lv' := [(11, .int 1), (10, .int x7_32), (9, .int x7_32), (8, .int x7_32), (0, .ref (Z.1 0 0)), (1, .ref (Z.1 2 i1)), (2, .int a2), (3, .int a3), (4, .int a4), (5, .int x5_32), (6, .int x6_32), (7, .int x7_32)]) hx hb dX7_rulesThatTell_102 hl (by decide) rfl (fun ls hl => ?_)
              refine lv_iconst (v := 0) hx hb dX7_rulesThatTell_104 (by decide) ?_
              refine lv_istore (lv' := [(12, .int 0), (11, .int 1), (10, .int x7_32), (9, .int x7_32), (8, .int x7_32), (0, .ref (Z.1 0 0)), (1, .ref (Z.1 2 i1)), (2, .int a2), (3, .int a3), (4, .int a4), (5, .int x5_32), (6, .int x6_32), (7, .int x7_32)]) hx hb dX7_rulesThatTell_105 hl (by decide) rfl (fun ls hl => ?_)
              have hl := lv_sub (l' := [(0, .ref (Z.1 0 0)), (1, .ref (Z.1 2 i1)), (2, .int a2), (3, .int a3), (4, .int a4), (5, .int x5_32), (6, .int x6_32), (7, .int x7_32), (8, .int x7_32), (9, .int x7_32), (10, .int x7_32), (11, .int 1), (12, .int 0)]) hl [5, 6, 7, 8, 9, 10, 11, 12, 4, 3, 2, 1, 0] rfl
              exact loop107 2000 x5_32 x6_32 x7_32 x7_32 x7_32 x7_32 1 0 _ _ _ hF hw hl
  refine lv_iload hx hb dX7_rulesThatTell_0 (lv_at hl 4 rfl) ?_
  refine lv_iconst (v := 2) hx hb dX7_rulesThatTell_2 (by decide) ?_
  refine lv_icmp_ne (tgt := 11) hx hb dX7_rulesThatTell_3 (by decide) (fun c22 => ?_) (fun c22 => ?_)
  · skip
    have hF := hF.trans (if_neg c22)
    refine lv_iload hx hb dX7_rulesThatTell_11 (lv_at hl 4 rfl) ?_
    refine lv_iconst (v := 1) hx hb dX7_rulesThatTell_13 (by decide) ?_
    refine lv_icmp_ne (tgt := 22) hx hb dX7_rulesThatTell_14 (by decide) (fun c23 => ?_) (fun c23 => ?_)
    · skip
      have hF := hF.trans (if_neg c23)
      refine lv_bipush (v := 9) hx hb dX7_rulesThatTell_22 (by decide) ?_
      refine lv_istore (lv' := [(5, .int 9), (0, .ref (Z.1 0 0)), (1, .ref (Z.1 2 i1)), (2, .int a2), (3, .int a3), (4, .int a4)]) hx hb dX7_rulesThatTell_24 hl (by decide) rfl (fun ls hl => ?_)
      refine lv_iconst (v := 0) hx hb dX7_rulesThatTell_26 (by decide) ?_
      refine lv_istore (lv' := [(6, .int 0), (5, .int 9), (0, .ref (Z.1 0 0)), (1, .ref (Z.1 2 i1)), (2, .int a2), (3, .int a3), (4, .int a4)]) hx hb dX7_rulesThatTell_27 hl (by decide) rfl (fun ls hl => ?_)
      refine lv_iconst (v := 0) hx hb dX7_rulesThatTell_29 (by decide) ?_
      refine lv_istore (lv' := [(7, .int 0), (6, .int 0), (5, .int 9), (0, .ref (Z.1 0 0)), (1, .ref (Z.1 2 i1)), (2, .int a2), (3, .int a3), (4, .int a4)]) hx hb dX7_rulesThatTell_30 hl (by decide) rfl (fun ls hl => ?_)
      have hl := lv_sub (l' := [(0, .ref (Z.1 0 0)), (1, .ref (Z.1 2 i1)), (2, .int a2), (3, .int a3), (4, .int a4), (5, .int 9), (6, .int 0), (7, .int 0)]) hl [3, 4, 5, 6, 7, 2, 1, 0] rfl
      exact loop32 2000 9 0 0 _ _ _ hF hw hl
    · skip
      have hF := hF.trans (if_pos c23)
      refine lv_bipush (v := 9) hx hb dX7_rulesThatTell_17 (by decide) ?_
      refine lv_goto (tgt := 24) hx hb dX7_rulesThatTell_19 (by decide) ?_
      refine lv_istore (lv' := [(5, .int 9), (0, .ref (Z.1 0 0)), (1, .ref (Z.1 2 i1)), (2, .int a2), (3, .int a3), (4, .int a4)]) hx hb dX7_rulesThatTell_24 hl (by decide) rfl (fun ls hl => ?_)
      refine lv_iconst (v := 0) hx hb dX7_rulesThatTell_26 (by decide) ?_
      refine lv_istore (lv' := [(6, .int 0), (5, .int 9), (0, .ref (Z.1 0 0)), (1, .ref (Z.1 2 i1)), (2, .int a2), (3, .int a3), (4, .int a4)]) hx hb dX7_rulesThatTell_27 hl (by decide) rfl (fun ls hl => ?_)
      refine lv_iconst (v := 0) hx hb dX7_rulesThatTell_29 (by decide) ?_
      refine lv_istore (lv' := [(7, .int 0), (6, .int 0), (5, .int 9), (0, .ref (Z.1 0 0)), (1, .ref (Z.1 2 i1)), (2, .int a2), (3, .int a3), (4, .int a4)]) hx hb dX7_rulesThatTell_30 hl (by decide) rfl (fun ls hl => ?_)
      have hl := lv_sub (l' := [(0, .ref (Z.1 0 0)), (1, .ref (Z.1 2 i1)), (2, .int a2), (3, .int a3), (4, .int a4), (5, .int 9), (6, .int 0), (7, .int 0)]) hl [3, 4, 5, 6, 7, 2, 1, 0] rfl
      exact loop32 2000 9 0 0 _ _ _ hF hw hl
  · skip
    have hF := hF.trans (if_pos c22)
    refine lv_bipush (v := 6) hx hb dX7_rulesThatTell_6 (by decide) ?_
    refine lv_goto (tgt := 24) hx hb dX7_rulesThatTell_8 (by decide) ?_
    refine lv_istore (lv' := [(5, .int 6), (0, .ref (Z.1 0 0)), (1, .ref (Z.1 2 i1)), (2, .int a2), (3, .int a3), (4, .int a4)]) hx hb dX7_rulesThatTell_24 hl (by decide) rfl (fun ls hl => ?_)
    refine lv_iconst (v := 0) hx hb dX7_rulesThatTell_26 (by decide) ?_
    refine lv_istore (lv' := [(6, .int 0), (5, .int 6), (0, .ref (Z.1 0 0)), (1, .ref (Z.1 2 i1)), (2, .int a2), (3, .int a3), (4, .int a4)]) hx hb dX7_rulesThatTell_27 hl (by decide) rfl (fun ls hl => ?_)
    refine lv_iconst (v := 0) hx hb dX7_rulesThatTell_29 (by decide) ?_
    refine lv_istore (lv' := [(7, .int 0), (6, .int 0), (5, .int 6), (0, .ref (Z.1 0 0)), (1, .ref (Z.1 2 i1)), (2, .int a2), (3, .int a3), (4, .int a4)]) hx hb dX7_rulesThatTell_30 hl (by decide) rfl (fun ls hl => ?_)
    have hl := lv_sub (l' := [(0, .ref (Z.1 0 0)), (1, .ref (Z.1 2 i1)), (2, .int a2), (3, .int a3), (4, .int a4), (5, .int 6), (6, .int 0), (7, .int 0)]) hl [3, 4, 5, 6, 7, 2, 1, 0] rfl
    exact loop32 2000 6 0 0 _ _ _ hF hw hl
abbrev rmX7_rules : Room := { frames := 3, cells := 0, slots := 0, locals := 77 }
def g_X7_rules (v : Mm) (a1 : Int32) (a2 : Int32) (a3 : Int32) (a4 : Int32) : Option (Int32 × Mm) := Option.bind (g_X7_noGate v) (fun r2 => if r2 = 0 then (Option.bind (g_X7_isRow v a1) (fun r6 => if r6 = 0 then (some ((-1000001), v)) else (if a3 < 1 then (some ((-1000001), v)) else (if 16 < a3 then (some ((-1000001), v)) else (if a4 < 0 then (some ((-1000001), v)) else (if a4 ≤ 2 then (if a1 < 0 ∨ 8 ≤ Int32.toNatClampNeg a1 then none else (Option.bind (g_X5_findingOf v ((Int32.toNatClampNeg a1)) a2 a3) (fun r15 => if r15 = 0 then (if a1 < 0 ∨ 8 ≤ Int32.toNatClampNeg a1 then none else (Option.bind (g_X7_rulesThatTell v ((Int32.toNatClampNeg a1)) a2 a3 a4) (fun r20 => kb2 (g_X7_unfound v r20) (fun r23 v24 => some (r23, v24))))) else (kb2 (g_X7_found v r15) (fun r26 v27 => some (r26, v27)))))) else (some ((-1000001), v)))))))) else (some ((-1000002), v)))
set_option maxHeartbeats 4000000 in
set_option maxRecDepth 100000 in
theorem d_X7_rules (l : Launch) (E : kq_T) (Z : km_Z) (v : Mm) (a1 : Int32) (a2 : Int32) (a3 : Int32) (a4 : Int32) (hs : g_X7_rules v a1 a2 a3 a4 ≠ none) : km_I l E Z cntX yX7_rules wsX7_rules rmX7_rules [.ref (Z.1 0 0), .int a1, .int a2, .int a3, .int a4] v (fun r v1 => g_X7_rules v a1 a2 a3 a4 = some (r, v1)) := by
  refine km_goI (cc := cX7_rules) (maxL := 6) (by decide) rfl (Nat.le_of_ble_eq_true rfl) rfl rfl rfl ?_
  intro p e s m below meth c A ls Q C hK hw hl hret
  obtain ⟨hx, hb, hml, hown, hts, -, -, -⟩ := C
  have hown : s.vm.findClass RX7 = some m.cls := hown
  have hl : lv_has ls 6 [(0, .ref (Z.1 0 0)), (1, .int a1), (2, .int a2), (3, .int a3), (4, .int a4)] := hl
  have hF := g_X7_rules.eq_1 v a1 a2 a3 a4
  refine lv_aload_n hx hb dX7_rules_0 rfl (lv_at hl 0 rfl) ?_
  have hs1 : g_X7_noGate v ≠ none := fun q => hs (hF.trans (kb_n q _))
  refine km_cI (As := []) (rest := []) (n := 0) (q := (RX7, TX7, 9)) (ci := 7) (t := 0) (i := 0) ⟨hx, hb, hml, hown, hts⟩ (d_X7_noGate l E Z v  hs1) gX7_rules_X7_noGate rfl hV_X7_noGate ⟨Nat.le_of_ble_eq_true rfl, Nat.le_of_ble_eq_true rfl⟩ hK hw (by decide) (by decide) rfl rfl rfl hl.1 rfl (Nat.le_of_ble_eq_true rfl) dX7_rules_1 rfl rfl (fun r2 v3 H locs hp hw => ?_)
  obtain ⟨hp, hzr2⟩ := hp
  obtain ⟨hp, rfl⟩ := hp
  have hF := hF.trans (kb_some hp _)
  refine lv_if_eq (tgt := 10) hx hb dX7_rules_4 (by decide) (fun c4 => ?_) (fun c4 => ?_)
  · skip
    have hF := hF.trans (if_pos c4)
    refine lv_aload_n hx hb dX7_rules_10 rfl (lv_at hl 0 rfl) ?_
    refine lv_iload_n hx hb dX7_rules_11 rfl (lv_at hl 1 rfl) ?_
    have hs5 : g_X7_isRow v a1 ≠ none := fun q => hs (hF.trans (kb_n q _))
    refine km_cI (As := [.int a1]) (rest := []) (n := 1) (q := (RX7, TX7, 9)) (ci := 7) (t := 0) (i := 0) ⟨hx, hb, hml, hown, hts⟩ (d_X7_isRow l E Z v a1 hs5) gX7_rules_X7_isRow rfl hV_X7_isRow ⟨Nat.le_of_ble_eq_true rfl, Nat.le_of_ble_eq_true rfl⟩ hK hw (by decide) (by decide) rfl rfl rfl hl.1 rfl (Nat.le_of_ble_eq_true rfl) dX7_rules_12 rfl rfl (fun r6 v7 H locs hp hw => ?_)
    obtain ⟨hp, hzr6⟩ := hp
    obtain ⟨hp, rfl⟩ := hp
    have hF := hF.trans (kb_some hp _)
    refine lv_if_eq (tgt := 40) hx hb dX7_rules_15 (by decide) (fun c8 => ?_) (fun c8 => ?_)
    · skip
      have hF := hF.trans (if_pos c8)
      refine lv_ldc (v := (-1000001)) hx hb hown (hts (.constant RX7 59 (-1000001)) ow_X7_rules_59) dX7_rules_40 ?_
      exact hret _ _ _ _ _ _ hw dX7_rules_42 hF
    · skip
      have hF := hF.trans (if_neg c8)
      refine lv_iload_n hx hb dX7_rules_18 rfl (lv_at hl 3 rfl) ?_
      refine lv_iconst (v := 1) hx hb dX7_rules_19 (by decide) ?_
      refine lv_icmp_lt (tgt := 40) hx hb dX7_rules_20 (by decide) (fun c9 => ?_) (fun c9 => ?_)
      · skip
        have hF := hF.trans (if_pos c9)
        refine lv_ldc (v := (-1000001)) hx hb hown (hts (.constant RX7 59 (-1000001)) ow_X7_rules_59) dX7_rules_40 ?_
        exact hret _ _ _ _ _ _ hw dX7_rules_42 hF
      · skip
        have hF := hF.trans (if_neg c9)
        refine lv_iload_n hx hb dX7_rules_23 rfl (lv_at hl 3 rfl) ?_
        refine lv_bipush (v := 16) hx hb dX7_rules_24 (by decide) ?_
        refine lv_icmp_gt (tgt := 40) hx hb dX7_rules_26 (by decide) (fun c10 => ?_) (fun c10 => ?_)
        · skip
          have hF := hF.trans (if_pos c10)
          refine lv_ldc (v := (-1000001)) hx hb hown (hts (.constant RX7 59 (-1000001)) ow_X7_rules_59) dX7_rules_40 ?_
          exact hret _ _ _ _ _ _ hw dX7_rules_42 hF
        · skip
          have hF := hF.trans (if_neg c10)
          refine lv_iload hx hb dX7_rules_29 (lv_at hl 4 rfl) ?_
          refine lv_if_lt (tgt := 40) hx hb dX7_rules_31 (by decide) (fun c11 => ?_) (fun c11 => ?_)
          · skip
            have hF := hF.trans (if_pos c11)
            refine lv_ldc (v := (-1000001)) hx hb hown (hts (.constant RX7 59 (-1000001)) ow_X7_rules_59) dX7_rules_40 ?_
            exact hret _ _ _ _ _ _ hw dX7_rules_42 hF
          · skip
            have hF := hF.trans (if_neg c11)
            refine lv_iload hx hb dX7_rules_34 (lv_at hl 4 rfl) ?_
            refine lv_iconst (v := 2) hx hb dX7_rules_36 (by decide) ?_
            refine lv_icmp_le (tgt := 43) hx hb dX7_rules_37 (by decide) (fun c12 => ?_) (fun c12 => ?_)
            · skip
              have hF := hF.trans (if_pos c12)
              refine lv_aload_n hx hb dX7_rules_43 rfl (lv_at hl 0 rfl) ?_
              refine km_get (ci := 7) (C := RX7) (T := TX7) (N := 9) (t := 0) (i := 0) hx hb hts fi_X7_rules_X7 hown hK hw (by decide) (by decide) rfl rfl 0 (by decide) (hts (.fieldLink RX7 11 "WrongWord" "rows" "[LWrongWord$Row;") ow_X7_rules_11) rfl dX7_rules_44 ?_
              refine lv_iload_n hx hb dX7_rules_47 rfl (lv_at hl 1 rfl) ?_
              have hb13 : ¬ (a1 < 0 ∨ 8 ≤ Int32.toNatClampNeg a1) := fun q => hs (hF.trans (if_pos q))
              have hF := hF.trans (if_neg hb13)
              refine km_rows hx hb hK hw (by decide) hb13 dX7_rules_48 ?_
              refine lv_iload_n hx hb dX7_rules_49 rfl (lv_at hl 2 rfl) ?_
              refine lv_iload_n hx hb dX7_rules_50 rfl (lv_at hl 3 rfl) ?_
              have hs14 : g_X5_findingOf v ((Int32.toNatClampNeg a1)) a2 a3 ≠ none := fun q => hs (hF.trans (kb_n q _))
              refine km_cI (As := [.int a2, .int a3]) (rest := []) (n := 2) (q := (RX5, TX5, 3)) (ci := 5) (t := 2) (i := (Int32.toNatClampNeg a1)) ⟨hx, hb, hml, hown, hts⟩ (d_X5_findingOf l E Z v ((Int32.toNatClampNeg a1)) (Nat.not_le.mp fun h9 => hb13 (Or.inr h9)) a2 a3 hs14) gX7_rules_X5_findingOf rfl hV_X5_findingOf ⟨Nat.le_of_ble_eq_true rfl, Nat.le_of_ble_eq_true rfl⟩ hK hw (by decide) (Nat.not_le.mp fun h9 => hb13 (Or.inr h9)) rfl rfl rfl hl.1 rfl (Nat.le_of_ble_eq_true rfl) dX7_rules_51 rfl rfl (fun r15 v16 H locs hp hw => ?_)
              obtain ⟨hp, rfl⟩ := hp
              have hF := hF.trans (kb_some hp _)
              refine lv_istore (lv' := [(5, .int r15), (0, .ref (Z.1 0 0)), (1, .int a1), (2, .int a2), (3, .int a3), (4, .int a4)]) hx hb dX7_rules_54 hl (by decide) rfl (fun ls hl => ?_)
              refine lv_iload hx hb dX7_rules_56 (lv_at hl 0 rfl) ?_
              refine lv_if_eq (tgt := 70) hx hb dX7_rules_58 (by decide) (fun c17 => ?_) (fun c17 => ?_)
              · skip
                have hF := hF.trans (if_pos c17)
                refine lv_aload_n hx hb dX7_rules_70 rfl (lv_at hl 1 rfl) ?_
                refine lv_aload_n hx hb dX7_rules_71 rfl (lv_at hl 1 rfl) ?_
                refine lv_aload_n hx hb dX7_rules_72 rfl (lv_at hl 1 rfl) ?_
                refine km_get (ci := 7) (C := RX7) (T := TX7) (N := 9) (t := 0) (i := 0) hx hb hts fi_X7_rules_X7 hown hK hw (by decide) (by decide) rfl rfl 0 (by decide) (hts (.fieldLink RX7 11 "WrongWord" "rows" "[LWrongWord$Row;") ow_X7_rules_11) rfl dX7_rules_73 ?_
                refine lv_iload_n hx hb dX7_rules_76 rfl (lv_at hl 2 rfl) ?_
                have hb18 : ¬ (a1 < 0 ∨ 8 ≤ Int32.toNatClampNeg a1) := fun q => hs (hF.trans (if_pos q))
                have hF := hF.trans (if_neg hb18)
                refine km_rows hx hb hK hw (by decide) hb18 dX7_rules_77 ?_
                refine lv_iload_n hx hb dX7_rules_78 rfl (lv_at hl 3 rfl) ?_
                refine lv_iload_n hx hb dX7_rules_79 rfl (lv_at hl 4 rfl) ?_
                refine lv_iload hx hb dX7_rules_80 (lv_at hl 5 rfl) ?_
                have hs19 : g_X7_rulesThatTell v ((Int32.toNatClampNeg a1)) a2 a3 a4 ≠ none := fun q => hs (hF.trans (kb_n q _))
                refine km_cI (As := [.ref (Z.1 2 ((Int32.toNatClampNeg a1))), .int a2, .int a3, .int a4]) (rest := [.ref (Z.1 0 0)]) (n := 4) (q := (RX7, TX7, 9)) (ci := 7) (t := 0) (i := 0) ⟨hx, hb, hml, hown, hts⟩ (d_X7_rulesThatTell l E Z v ((Int32.toNatClampNeg a1)) (Nat.not_le.mp fun h9 => hb18 (Or.inr h9)) a2 a3 a4 hs19) gX7_rules_X7_rulesThatTell rfl hV_X7_rulesThatTell ⟨Nat.le_of_ble_eq_true rfl, Nat.le_of_ble_eq_true rfl⟩ hK hw (by decide) (by decide) rfl rfl rfl hl.1 rfl (Nat.le_of_ble_eq_true rfl) dX7_rules_82 rfl rfl (fun r20 v21 H locs hp hw => ?_)
                obtain ⟨hp, rfl⟩ := hp
                have hF := hF.trans (kb_some hp _)
                have hs22 : g_X7_unfound v r20 ≠ none := fun q => hs (hF.trans (kb2_n q _))
                refine km_cI (As := [.int r20]) (rest := []) (n := 1) (q := (RX7, TX7, 9)) (ci := 7) (t := 0) (i := 0) ⟨hx, hb, hml, hown, hts⟩ (d_X7_unfound l E Z v r20 hs22) gX7_rules_X7_unfound rfl hV_X7_unfound ⟨Nat.le_of_ble_eq_true rfl, Nat.le_of_ble_eq_true rfl⟩ hK hw (by decide) (by decide) rfl rfl rfl hl.1 rfl (Nat.le_of_ble_eq_true rfl) dX7_rules_85 rfl rfl (fun r23 v24 H locs hp hw => ?_)
                have hF := hF.trans (kb2_some hp _)
                exact hret _ _ _ _ _ _ hw dX7_rules_88 hF
              · skip
                have hF := hF.trans (if_neg c17)
                refine lv_aload_n hx hb dX7_rules_61 rfl (lv_at hl 1 rfl) ?_
                refine lv_iload hx hb dX7_rules_62 (lv_at hl 0 rfl) ?_
                have hs25 : g_X7_found v r15 ≠ none := fun q => hs (hF.trans (kb2_n q _))
                refine km_cI (As := [.int r15]) (rest := []) (n := 1) (q := (RX7, TX7, 9)) (ci := 7) (t := 0) (i := 0) ⟨hx, hb, hml, hown, hts⟩ (d_X7_found l E Z v r15 hs25) gX7_rules_X7_found rfl hV_X7_found ⟨Nat.le_of_ble_eq_true rfl, Nat.le_of_ble_eq_true rfl⟩ hK hw (by decide) (by decide) rfl rfl rfl hl.1 rfl (Nat.le_of_ble_eq_true rfl) dX7_rules_64 rfl rfl (fun r26 v27 H locs hp hw => ?_)
                have hF := hF.trans (kb2_some hp _)
                refine lv_goto (tgt := 88) hx hb dX7_rules_67 (by decide) ?_
                exact hret _ _ _ _ _ _ hw dX7_rules_88 hF
            · skip
              have hF := hF.trans (if_neg c12)
              refine lv_ldc (v := (-1000001)) hx hb hown (hts (.constant RX7 59 (-1000001)) ow_X7_rules_59) dX7_rules_40 ?_
              exact hret _ _ _ _ _ _ hw dX7_rules_42 hF
  · skip
    have hF := hF.trans (if_neg c4)
    refine lv_ldc (v := (-1000002)) hx hb hown (hts (.constant RX7 136 (-1000002)) ow_X7_rules_136) dX7_rules_7 ?_
    exact hret _ _ _ _ _ _ hw dX7_rules_9 hF
abbrev rmX7_fitsTold : Room := { frames := 2, cells := 0, slots := 0, locals := 48 }
def b_X7_fitsTold_L3  (rec3 : Int32 → Option (Int32)) (v : Mm) (i3 : Nat) (a1 : Int32) (a2 : Int32) (a4 : Int32) (x5_3 : Int32) : Option (Int32) := if v 6 0 6 ≤ x5_3 then (some 1) else (Option.bind (g_X2_wouldTake v 0 a1 x5_3 a2 (v 10 0 4)) (fun r3 => Option.bind (g_X7_bit v r3) (fun r6 => if a4 + x5_3 < 0 ∨ 40 ≤ Int32.toNatClampNeg (a4 + x5_3) then none else (if r6 = v 3 i3 (Int32.toNatClampNeg (a4 + x5_3)) then (rec3 (x5_3 + 1)) else (some 0)))))
def g_X7_fitsTold_L3  (v : Mm) (i3 : Nat) (a1 : Int32) (a2 : Int32) (a4 : Int32) : Nat → Int32 → Option (Int32)
  | 0 => fun _ => none
  | n + 1 => b_X7_fitsTold_L3  (g_X7_fitsTold_L3  v i3 a1 a2 a4 n) v i3 a1 a2 a4
def g_X7_fitsTold (v : Mm) (a1 : Int32) (a2 : Int32) (i3 : Nat) (a4 : Int32) : Option (Int32) := g_X7_fitsTold_L3  v i3 a1 a2 a4 2000 0
set_option maxHeartbeats 4000000 in
set_option maxRecDepth 100000 in
theorem d_X7_fitsTold (l : Launch) (E : kq_T) (Z : km_Z) (v : Mm) (a1 : Int32) (a2 : Int32) (i3 : Nat) (h_i3 : i3 < cntX 2) (a4 : Int32) (hs : g_X7_fitsTold v a1 a2 i3 a4 ≠ none) : km_I l E Z cntX yX7_fitsTold wsX7_fitsTold rmX7_fitsTold [.ref (Z.1 0 0), .int a1, .int a2, .ref (Z.1 2 i3), .int a4] v (fun r v1 => (g_X7_fitsTold v a1 a2 i3 a4 = some r ∧ v = v1) ∧ (r = 0 ∨ r = 1)) := by
  refine km_goZ (cc := cX7_fitsTold) (maxL := 6) (post := fun r v1 => g_X7_fitsTold v a1 a2 i3 a4 = some r ∧ v = v1) (by decide) rfl (Nat.le_of_ble_eq_true rfl) rfl rfl rfl ?_
  intro p e s m below meth c A ls Q C hK hw hl hret
  obtain ⟨hx, hb, hml, hown, hts, -, -, -⟩ := C
  have hown : s.vm.findClass RX7 = some m.cls := hown
  have hl : lv_has ls 6 [(0, .ref (Z.1 0 0)), (1, .int a1), (2, .int a2), (3, .ref (Z.1 2 i3)), (4, .int a4)] := hl
  have hF := g_X7_fitsTold.eq_1 v a1 a2 i3 a4
  have loop3 : ∀ (n3 : Nat) (x5_3 : Int32) (H : Heap) (locs : List Loc) (ls : Array Slot), g_X7_fitsTold v a1 a2 i3 a4 = g_X7_fitsTold_L3  v i3 a1 a2 a4 n3 x5_3 → km_w E A s.heap [] Z cntX v H locs → lv_has ls 6 [(0, .ref (Z.1 0 0)), (1, .int a1), (2, .int a2), (3, .ref (Z.1 2 i3)), (4, .int a4), (5, .int x5_3)] → W p l e rmX7_fitsTold s m [.ref (Z.1 0 0), .int a1, .int a2, .ref (Z.1 2 i3), .int a4].toArray below meth c H locs 0 0 Q (F0 m 3 ls []) := by
    intro n3
    induction n3 with
    | zero => intro x5_3 H locs ls hF hw hl; exact absurd (show g_X7_fitsTold v a1 a2 i3 a4 = none from hF) hs
    | succ n3 ih3 =>
      intro x5_3 H locs ls hF hw hl
      have hF := hF.trans (b_X7_fitsTold_L3.eq_1  (g_X7_fitsTold_L3  v i3 a1 a2 a4 n3) v i3 a1 a2 a4 x5_3)
      refine lv_iload hx hb dX7_fitsTold_3 (lv_at hl 5 rfl) ?_
      refine lv_aload_n hx hb dX7_fitsTold_5 rfl (lv_at hl 0 rfl) ?_
      refine km_get (ci := 7) (C := RX7) (T := TX7) (N := 9) (t := 0) (i := 0) hx hb hts fi_X7_fitsTold_X7 hown hK hw (by decide) (by decide) rfl rfl 2 (by decide) (hts (.fieldLink RX7 25 "WrongWord" "gate" "LWrongWord$Gate;") ow_X7_fitsTold_25) rfl dX7_fitsTold_6 ?_
      refine km_get (ci := 2) (C := RX2) (T := TX2) (N := 8) (t := 6) (i := 0) hx hb hts fi_X7_fitsTold_X2 hown hK hw (by decide) (by decide) rfl rfl 6 (by decide) (hts (.fieldLink RX7 130 "WrongWord$Gate" "words" "I") ow_X7_fitsTold_130) rfl dX7_fitsTold_9 ?_
      refine lv_icmp_ge (tgt := 60) hx hb dX7_fitsTold_12 (by decide) (fun c1 => ?_) (fun c1 => ?_)
      · skip
        have hF := hF.trans (if_pos c1)
        refine lv_iconst (v := 1) hx hb dX7_fitsTold_60 (by decide) ?_
        exact hret _ _ _ _ _ _ hw dX7_fitsTold_61 (Or.inr rfl) ⟨hF, rfl⟩
      · skip
        have hF := hF.trans (if_neg c1)
        refine lv_aload_n hx hb dX7_fitsTold_15 rfl (lv_at hl 0 rfl) ?_
        refine km_get (ci := 7) (C := RX7) (T := TX7) (N := 9) (t := 0) (i := 0) hx hb hts fi_X7_fitsTold_X7 hown hK hw (by decide) (by decide) rfl rfl 2 (by decide) (hts (.fieldLink RX7 25 "WrongWord" "gate" "LWrongWord$Gate;") ow_X7_fitsTold_25) rfl dX7_fitsTold_16 ?_
        refine lv_iload_n hx hb dX7_fitsTold_19 rfl (lv_at hl 1 rfl) ?_
        refine lv_iload hx hb dX7_fitsTold_20 (lv_at hl 5 rfl) ?_
        refine lv_iload_n hx hb dX7_fitsTold_22 rfl (lv_at hl 2 rfl) ?_
        refine lv_aload_n hx hb dX7_fitsTold_23 rfl (lv_at hl 0 rfl) ?_
        refine km_get (ci := 7) (C := RX7) (T := TX7) (N := 9) (t := 0) (i := 0) hx hb hts fi_X7_fitsTold_X7 hown hK hw (by decide) (by decide) rfl rfl 2 (by decide) (hts (.fieldLink RX7 25 "WrongWord" "gate" "LWrongWord$Gate;") ow_X7_fitsTold_25) rfl dX7_fitsTold_24 ?_
        refine km_get (ci := 2) (C := RX2) (T := TX2) (N := 8) (t := 6) (i := 0) hx hb hts fi_X7_fitsTold_X2 hown hK hw (by decide) (by decide) rfl rfl 3 (by decide) (hts (.fieldLink RX7 137 "WrongWord$Gate" "now" "LWrongWord$Moment;") ow_X7_fitsTold_137) rfl dX7_fitsTold_27 ?_
        refine km_get (ci := 4) (C := RX4) (T := TX4) (N := 8) (t := 10) (i := 0) hx hb hts fi_X7_fitsTold_X4 hown hK hw (by decide) (by decide) rfl rfl 4 (by decide) (hts (.fieldLink RX7 141 "WrongWord$Moment" "night" "I") ow_X7_fitsTold_141) rfl dX7_fitsTold_30 ?_
        have hs2 : g_X2_wouldTake v 0 a1 x5_3 a2 (v 10 0 4) ≠ none := fun q => hs (hF.trans (kb_n q _))
        refine km_cI (As := [.int a1, .int x5_3, .int a2, .int (v 10 0 4)]) (rest := []) (n := 4) (q := (RX2, TX2, 8)) (ci := 2) (t := 6) (i := 0) ⟨hx, hb, hml, hown, hts⟩ (d_X2_wouldTake l E Z v 0 (by decide) a1 x5_3 a2 (v 10 0 4) hs2) gX7_fitsTold_X2_wouldTake rfl hV_X2_wouldTake ⟨Nat.le_of_ble_eq_true rfl, Nat.le_of_ble_eq_true rfl⟩ hK hw (by decide) (by decide) rfl rfl rfl hl.1 rfl (Nat.le_of_ble_eq_true rfl) dX7_fitsTold_33 rfl rfl (fun r3 v4 H locs hp hw => ?_)
        obtain ⟨hp, hzr3⟩ := hp
        obtain ⟨hp, rfl⟩ := hp
        have hF := hF.trans (kb_some hp _)
        have hs5 : g_X7_bit v r3 ≠ none := fun q => hs (hF.trans (kb_n q _))
        refine km_cS (As := [.int r3]) (rest := []) (n := 1) ⟨hx, hb, hml, hown, hts⟩ (d_X7_bit l E Z v r3 hs5) gX7_fitsTold_X7_bit rfl hV_X7_bit ⟨Nat.le_of_ble_eq_true rfl, Nat.le_of_ble_eq_true rfl⟩ hK hw rfl hl.1 rfl (Nat.le_of_ble_eq_true rfl) dX7_fitsTold_36 rfl rfl (fun r6 v7 H locs hp hw => ?_)
        obtain ⟨hp, rfl⟩ := hp
        have hF := hF.trans (kb_some hp _)
        refine lv_aload_n hx hb dX7_fitsTold_39 rfl (lv_at hl 3 rfl) ?_
        refine km_get (ci := 5) (C := RX5) (T := TX5) (N := 3) (t := 2) (i := i3) hx hb hts fi_X7_fitsTold_X5 hown hK hw (by decide) h_i3 rfl rfl 0 (by decide) (hts (.fieldLink RX7 86 "WrongWord$Row" "items" "[I") ow_X7_fitsTold_86) rfl dX7_fitsTold_40 ?_
        refine lv_iload hx hb dX7_fitsTold_43 (lv_at hl 4 rfl) ?_
        refine lv_iload hx hb dX7_fitsTold_45 (lv_at hl 5 rfl) ?_
        refine lv_iadd hx hb dX7_fitsTold_47 ?_
        have hb8 : ¬ (a4 + x5_3 < 0 ∨ 40 ≤ Int32.toNatClampNeg (a4 + x5_3)) := fun q => hs (hF.trans (if_pos q))
        have hF := hF.trans (if_neg hb8)
        refine km_iald (t := 3) (i := i3) hx hb hK hw (by decide) h_i3 rfl hb8 dX7_fitsTold_48 ?_
        refine lv_icmp_eq (tgt := 54) hx hb dX7_fitsTold_49 (by decide) (fun c9 => ?_) (fun c9 => ?_)
        · skip
          have hF := hF.trans (if_pos c9)
          refine lv_iinc (v := x5_3 + 1) (lv' := [(5, .int (x5_3 + 1)), (0, .ref (Z.1 0 0)), (1, .int a1), (2, .int a2), (3, .ref (Z.1 2 i3)), (4, .int a4)]) hx hb dX7_fitsTold_54 hl (k := 5) rfl rfl (by decide) rfl (fun ls hl => ?_)
          refine lv_goto (tgt := 3) hx hb dX7_fitsTold_57 (by decide) ?_
          have hl := lv_sub (l' := [(0, .ref (Z.1 0 0)), (1, .int a1), (2, .int a2), (3, .ref (Z.1 2 i3)), (4, .int a4), (5, .int (x5_3 + 1))]) hl [1, 2, 3, 4, 5, 0] rfl
          exact ih3 (x5_3 + 1) _ _ _ hF hw hl
        · skip
          have hF := hF.trans (if_neg c9)
          refine lv_iconst (v := 0) hx hb dX7_fitsTold_52 (by decide) ?_
          exact hret _ _ _ _ _ _ hw dX7_fitsTold_53 (Or.inl rfl) ⟨hF, rfl⟩
  refine lv_iconst (v := 0) hx hb dX7_fitsTold_0 (by decide) ?_
  refine lv_istore (lv' := [(5, .int 0), (0, .ref (Z.1 0 0)), (1, .int a1), (2, .int a2), (3, .ref (Z.1 2 i3)), (4, .int a4)]) hx hb dX7_fitsTold_1 hl (by decide) rfl (fun ls hl => ?_)
  have hl := lv_sub (l' := [(0, .ref (Z.1 0 0)), (1, .int a1), (2, .int a2), (3, .ref (Z.1 2 i3)), (4, .int a4), (5, .int 0)]) hl [1, 2, 3, 4, 5, 0] rfl
  exact loop3 2000 0 _ _ _ hF hw hl
abbrev rmX7_kindsThatFit : Room := { frames := 3, cells := 0, slots := 0, locals := 73 }
def b_X7_kindsThatFit_L15  (rec15 : Int32 → Int32 → Int32 → Option (Int32)) (v : Mm) (i1 : Nat) (a2 : Int32) (x3_15 : Int32) (x4_15 : Int32) (x5_15 : Int32) : Option (Int32) := if 5 < x5_15 then (some x4_15) else (Option.bind (g_X7_fitsTold v x5_15 x3_15 i1 a2) (fun r6 => Option.bind (g_X7_bit v r6) (fun r9 => rec15 x3_15 (x4_15 ||| (r9 <<< (x5_15 &&& 31))) (x5_15 + 1))))
def g_X7_kindsThatFit_L15  (v : Mm) (i1 : Nat) (a2 : Int32) : Nat → Int32 → Int32 → Int32 → Option (Int32)
  | 0 => fun _ _ _ => none
  | n + 1 => b_X7_kindsThatFit_L15  (g_X7_kindsThatFit_L15  v i1 a2 n) v i1 a2
def g_X7_kindsThatFit (v : Mm) (i1 : Nat) (a2 : Int32) : Option (Int32) := Option.bind (g_X2_secretIn v 0 0) (fun r2 => g_X7_kindsThatFit_L15  v i1 a2 2000 r2 0 1)
set_option maxHeartbeats 4000000 in
set_option maxRecDepth 100000 in
theorem d_X7_kindsThatFit (l : Launch) (E : kq_T) (Z : km_Z) (v : Mm) (i1 : Nat) (h_i1 : i1 < cntX 2) (a2 : Int32) (hs : g_X7_kindsThatFit v i1 a2 ≠ none) : km_I l E Z cntX yX7_kindsThatFit wsX7_kindsThatFit rmX7_kindsThatFit [.ref (Z.1 0 0), .ref (Z.1 2 i1), .int a2] v (fun r v1 => g_X7_kindsThatFit v i1 a2 = some r ∧ v = v1) := by
  refine km_goI (cc := cX7_kindsThatFit) (maxL := 6) (by decide) rfl (Nat.le_of_ble_eq_true rfl) rfl rfl rfl ?_
  intro p e s m below meth c A ls Q C hK hw hl hret
  obtain ⟨hx, hb, hml, hown, hts, -, -, -⟩ := C
  have hown : s.vm.findClass RX7 = some m.cls := hown
  have hl : lv_has ls 6 [(0, .ref (Z.1 0 0)), (1, .ref (Z.1 2 i1)), (2, .int a2)] := hl
  have hF := g_X7_kindsThatFit.eq_1 v i1 a2
  have loop15 : ∀ (n15 : Nat) (x3_15 : Int32) (x4_15 : Int32) (x5_15 : Int32) (H : Heap) (locs : List Loc) (ls : Array Slot), g_X7_kindsThatFit v i1 a2 = g_X7_kindsThatFit_L15  v i1 a2 n15 x3_15 x4_15 x5_15 → km_w E A s.heap [] Z cntX v H locs → lv_has ls 6 [(0, .ref (Z.1 0 0)), (1, .ref (Z.1 2 i1)), (2, .int a2), (3, .int x3_15), (4, .int x4_15), (5, .int x5_15)] → W p l e rmX7_kindsThatFit s m [.ref (Z.1 0 0), .ref (Z.1 2 i1), .int a2].toArray below meth c H locs 0 0 Q (F0 m 15 ls []) := by
    intro n15
    induction n15 with
    | zero => intro x3_15 x4_15 x5_15 H locs ls hF hw hl; exact absurd (show g_X7_kindsThatFit v i1 a2 = none from hF) hs
    | succ n15 ih15 =>
      intro x3_15 x4_15 x5_15 H locs ls hF hw hl
      have hF := hF.trans (b_X7_kindsThatFit_L15.eq_1  (g_X7_kindsThatFit_L15  v i1 a2 n15) v i1 a2 x3_15 x4_15 x5_15)
      refine lv_iload hx hb dX7_kindsThatFit_15 (lv_at hl 5 rfl) ?_
      refine lv_iconst (v := 5) hx hb dX7_kindsThatFit_17 (by decide) ?_
      refine lv_icmp_gt (tgt := 47) hx hb dX7_kindsThatFit_18 (by decide) (fun c1 => ?_) (fun c1 => ?_)
      · skip
        have hF := hF.trans (if_pos c1)
        refine lv_iload hx hb dX7_kindsThatFit_47 (lv_at hl 4 rfl) ?_
        exact hret _ _ _ _ _ _ hw dX7_kindsThatFit_49 ⟨hF, rfl⟩
      · skip
        have hF := hF.trans (if_neg c1)
        refine lv_iload hx hb dX7_kindsThatFit_21 (lv_at hl 4 rfl) ?_
        refine lv_aload_n hx hb dX7_kindsThatFit_23 rfl (lv_at hl 0 rfl) ?_
        refine lv_iload hx hb dX7_kindsThatFit_24 (lv_at hl 5 rfl) ?_
        refine lv_iload_n hx hb dX7_kindsThatFit_26 rfl (lv_at hl 3 rfl) ?_
        refine lv_aload_n hx hb dX7_kindsThatFit_27 rfl (lv_at hl 1 rfl) ?_
        refine lv_iload_n hx hb dX7_kindsThatFit_28 rfl (lv_at hl 2 rfl) ?_
        have hs2 : g_X7_fitsTold v x5_15 x3_15 i1 a2 ≠ none := fun q => hs (hF.trans (kb_n q _))
        refine km_cI (As := [.int x5_15, .int x3_15, .ref (Z.1 2 i1), .int a2]) (rest := [.int x4_15]) (n := 4) (q := (RX7, TX7, 9)) (ci := 7) (t := 0) (i := 0) ⟨hx, hb, hml, hown, hts⟩ (d_X7_fitsTold l E Z v x5_15 x3_15 i1 h_i1 a2 hs2) gX7_kindsThatFit_X7_fitsTold rfl hV_X7_fitsTold ⟨Nat.le_of_ble_eq_true rfl, Nat.le_of_ble_eq_true rfl⟩ hK hw (by decide) (by decide) rfl rfl rfl hl.1 rfl (Nat.le_of_ble_eq_true rfl) dX7_kindsThatFit_29 rfl rfl (fun r3 v4 H locs hp hw => ?_)
        obtain ⟨hp, hzr3⟩ := hp
        obtain ⟨hp, rfl⟩ := hp
        have hF := hF.trans (kb_some hp _)
        have hs5 : g_X7_bit v r3 ≠ none := fun q => hs (hF.trans (kb_n q _))
        refine km_cS (As := [.int r3]) (rest := [.int x4_15]) (n := 1) ⟨hx, hb, hml, hown, hts⟩ (d_X7_bit l E Z v r3 hs5) gX7_kindsThatFit_X7_bit rfl hV_X7_bit ⟨Nat.le_of_ble_eq_true rfl, Nat.le_of_ble_eq_true rfl⟩ hK hw rfl hl.1 rfl (Nat.le_of_ble_eq_true rfl) dX7_kindsThatFit_32 rfl rfl (fun r6 v7 H locs hp hw => ?_)
        obtain ⟨hp, rfl⟩ := hp
        have hF := hF.trans (kb_some hp _)
        refine lv_iload hx hb dX7_kindsThatFit_35 (lv_at hl 5 rfl) ?_
        refine lv_ishl hx hb dX7_kindsThatFit_37 ?_
        refine lv_ior hx hb dX7_kindsThatFit_38 ?_
        refine lv_istore (lv' := [(4, .int (x4_15 ||| (r6 <<< (x5_15 &&& 31)))), (0, .ref (Z.1 0 0)), (1, .ref (Z.1 2 i1)), (2, .int a2), (3, .int x3_15), (5, .int x5_15)]) hx hb dX7_kindsThatFit_39 hl (by decide) rfl (fun ls hl => ?_)
        refine lv_iinc (v := x5_15 + 1) (lv' := [(5, .int (x5_15 + 1)), (4, .int (x4_15 ||| (r6 <<< (x5_15 &&& 31)))), (0, .ref (Z.1 0 0)), (1, .ref (Z.1 2 i1)), (2, .int a2), (3, .int x3_15)]) hx hb dX7_kindsThatFit_41 hl (k := 5) rfl rfl (by decide) rfl (fun ls hl => ?_)
        refine lv_goto (tgt := 15) hx hb dX7_kindsThatFit_44 (by decide) ?_
        have hl := lv_sub (l' := [(0, .ref (Z.1 0 0)), (1, .ref (Z.1 2 i1)), (2, .int a2), (3, .int x3_15), (4, .int (x4_15 ||| (r6 <<< (x5_15 &&& 31)))), (5, .int (x5_15 + 1))]) hl [2, 3, 4, 5, 1, 0] rfl
        exact ih15 x3_15 (x4_15 ||| (r6 <<< (x5_15 &&& 31))) (x5_15 + 1) _ _ _ hF hw hl
  refine lv_aload_n hx hb dX7_kindsThatFit_0 rfl (lv_at hl 0 rfl) ?_
  refine km_get (ci := 7) (C := RX7) (T := TX7) (N := 9) (t := 0) (i := 0) hx hb hts fi_X7_kindsThatFit_X7 hown hK hw (by decide) (by decide) rfl rfl 2 (by decide) (hts (.fieldLink RX7 25 "WrongWord" "gate" "LWrongWord$Gate;") ow_X7_kindsThatFit_25) rfl dX7_kindsThatFit_1 ?_
  refine lv_iconst (v := 0) hx hb dX7_kindsThatFit_4 (by decide) ?_
  have hs8 : g_X2_secretIn v 0 0 ≠ none := fun q => hs (hF.trans (kb_n q _))
  refine km_cI (As := [.int 0]) (rest := []) (n := 1) (q := (RX2, TX2, 8)) (ci := 2) (t := 6) (i := 0) ⟨hx, hb, hml, hown, hts⟩ (d_X2_secretIn l E Z v 0 (by decide) 0 hs8) gX7_kindsThatFit_X2_secretIn rfl hV_X2_secretIn ⟨Nat.le_of_ble_eq_true rfl, Nat.le_of_ble_eq_true rfl⟩ hK hw (by decide) (by decide) rfl rfl rfl hl.1 rfl (Nat.le_of_ble_eq_true rfl) dX7_kindsThatFit_5 rfl rfl (fun r9 v10 H locs hp hw => ?_)
  obtain ⟨hp, rfl⟩ := hp
  have hF := hF.trans (kb_some hp _)
  refine lv_istore_n (lv' := [(3, .int r9), (0, .ref (Z.1 0 0)), (1, .ref (Z.1 2 i1)), (2, .int a2)]) hx hb dX7_kindsThatFit_8 rfl hl (by decide) rfl (fun ls hl => ?_)
  refine lv_iconst (v := 0) hx hb dX7_kindsThatFit_9 (by decide) ?_
  refine lv_istore (lv' := [(4, .int 0), (3, .int r9), (0, .ref (Z.1 0 0)), (1, .ref (Z.1 2 i1)), (2, .int a2)]) hx hb dX7_kindsThatFit_10 hl (by decide) rfl (fun ls hl => ?_)
  refine lv_iconst (v := 1) hx hb dX7_kindsThatFit_12 (by decide) ?_
  refine lv_istore (lv' := [(5, .int 1), (4, .int 0), (3, .int r9), (0, .ref (Z.1 0 0)), (1, .ref (Z.1 2 i1)), (2, .int a2)]) hx hb dX7_kindsThatFit_13 hl (by decide) rfl (fun ls hl => ?_)
  have hl := lv_sub (l' := [(0, .ref (Z.1 0 0)), (1, .ref (Z.1 2 i1)), (2, .int a2), (3, .int r9), (4, .int 0), (5, .int 1)]) hl [3, 4, 5, 2, 1, 0] rfl
  exact loop15 2000 r9 0 1 _ _ _ hF hw hl
abbrev rmX7_secretsThatFit : Room := { frames := 3, cells := 0, slots := 0, locals := 73 }
def b_X7_secretsThatFit_L6  (rec6 : Int32 → Int32 → Option (Int32)) (v : Mm) (i2 : Nat) (a1 : Int32) (a3 : Int32) (x4_6 : Int32) (x5_6 : Int32) : Option (Int32) := if v 6 0 6 ≤ x5_6 then (some x4_6) else (Option.bind (g_X7_fitsTold v a1 x5_6 i2 a3) (fun r3 => Option.bind (g_X7_bit v r3) (fun r6 => rec6 (x4_6 ||| (r6 <<< (x5_6 &&& 31))) (x5_6 + 1))))
def g_X7_secretsThatFit_L6  (v : Mm) (i2 : Nat) (a1 : Int32) (a3 : Int32) : Nat → Int32 → Int32 → Option (Int32)
  | 0 => fun _ _ => none
  | n + 1 => b_X7_secretsThatFit_L6  (g_X7_secretsThatFit_L6  v i2 a1 a3 n) v i2 a1 a3
def g_X7_secretsThatFit (v : Mm) (a1 : Int32) (i2 : Nat) (a3 : Int32) : Option (Int32) := g_X7_secretsThatFit_L6  v i2 a1 a3 2000 0 0
set_option maxHeartbeats 4000000 in
set_option maxRecDepth 100000 in
theorem d_X7_secretsThatFit (l : Launch) (E : kq_T) (Z : km_Z) (v : Mm) (a1 : Int32) (i2 : Nat) (h_i2 : i2 < cntX 2) (a3 : Int32) (hs : g_X7_secretsThatFit v a1 i2 a3 ≠ none) : km_I l E Z cntX yX7_secretsThatFit wsX7_secretsThatFit rmX7_secretsThatFit [.ref (Z.1 0 0), .int a1, .ref (Z.1 2 i2), .int a3] v (fun r v1 => g_X7_secretsThatFit v a1 i2 a3 = some r ∧ v = v1) := by
  refine km_goI (cc := cX7_secretsThatFit) (maxL := 6) (by decide) rfl (Nat.le_of_ble_eq_true rfl) rfl rfl rfl ?_
  intro p e s m below meth c A ls Q C hK hw hl hret
  obtain ⟨hx, hb, hml, hown, hts, -, -, -⟩ := C
  have hown : s.vm.findClass RX7 = some m.cls := hown
  have hl : lv_has ls 6 [(0, .ref (Z.1 0 0)), (1, .int a1), (2, .ref (Z.1 2 i2)), (3, .int a3)] := hl
  have hF := g_X7_secretsThatFit.eq_1 v a1 i2 a3
  have loop6 : ∀ (n6 : Nat) (x4_6 : Int32) (x5_6 : Int32) (H : Heap) (locs : List Loc) (ls : Array Slot), g_X7_secretsThatFit v a1 i2 a3 = g_X7_secretsThatFit_L6  v i2 a1 a3 n6 x4_6 x5_6 → km_w E A s.heap [] Z cntX v H locs → lv_has ls 6 [(0, .ref (Z.1 0 0)), (1, .int a1), (2, .ref (Z.1 2 i2)), (3, .int a3), (4, .int x4_6), (5, .int x5_6)] → W p l e rmX7_secretsThatFit s m [.ref (Z.1 0 0), .int a1, .ref (Z.1 2 i2), .int a3].toArray below meth c H locs 0 0 Q (F0 m 6 ls []) := by
    intro n6
    induction n6 with
    | zero => intro x4_6 x5_6 H locs ls hF hw hl; exact absurd (show g_X7_secretsThatFit v a1 i2 a3 = none from hF) hs
    | succ n6 ih6 =>
      intro x4_6 x5_6 H locs ls hF hw hl
      have hF := hF.trans (b_X7_secretsThatFit_L6.eq_1  (g_X7_secretsThatFit_L6  v i2 a1 a3 n6) v i2 a1 a3 x4_6 x5_6)
      refine lv_iload hx hb dX7_secretsThatFit_6 (lv_at hl 5 rfl) ?_
      refine lv_aload_n hx hb dX7_secretsThatFit_8 rfl (lv_at hl 0 rfl) ?_
      refine km_get (ci := 7) (C := RX7) (T := TX7) (N := 9) (t := 0) (i := 0) hx hb hts fi_X7_secretsThatFit_X7 hown hK hw (by decide) (by decide) rfl rfl 2 (by decide) (hts (.fieldLink RX7 25 "WrongWord" "gate" "LWrongWord$Gate;") ow_X7_secretsThatFit_25) rfl dX7_secretsThatFit_9 ?_
      refine km_get (ci := 2) (C := RX2) (T := TX2) (N := 8) (t := 6) (i := 0) hx hb hts fi_X7_secretsThatFit_X2 hown hK hw (by decide) (by decide) rfl rfl 6 (by decide) (hts (.fieldLink RX7 130 "WrongWord$Gate" "words" "I") ow_X7_secretsThatFit_130) rfl dX7_secretsThatFit_12 ?_
      refine lv_icmp_ge (tgt := 44) hx hb dX7_secretsThatFit_15 (by decide) (fun c1 => ?_) (fun c1 => ?_)
      · skip
        have hF := hF.trans (if_pos c1)
        refine lv_iload hx hb dX7_secretsThatFit_44 (lv_at hl 4 rfl) ?_
        exact hret _ _ _ _ _ _ hw dX7_secretsThatFit_46 ⟨hF, rfl⟩
      · skip
        have hF := hF.trans (if_neg c1)
        refine lv_iload hx hb dX7_secretsThatFit_18 (lv_at hl 4 rfl) ?_
        refine lv_aload_n hx hb dX7_secretsThatFit_20 rfl (lv_at hl 0 rfl) ?_
        refine lv_iload_n hx hb dX7_secretsThatFit_21 rfl (lv_at hl 1 rfl) ?_
        refine lv_iload hx hb dX7_secretsThatFit_22 (lv_at hl 5 rfl) ?_
        refine lv_aload_n hx hb dX7_secretsThatFit_24 rfl (lv_at hl 2 rfl) ?_
        refine lv_iload_n hx hb dX7_secretsThatFit_25 rfl (lv_at hl 3 rfl) ?_
        have hs2 : g_X7_fitsTold v a1 x5_6 i2 a3 ≠ none := fun q => hs (hF.trans (kb_n q _))
        refine km_cI (As := [.int a1, .int x5_6, .ref (Z.1 2 i2), .int a3]) (rest := [.int x4_6]) (n := 4) (q := (RX7, TX7, 9)) (ci := 7) (t := 0) (i := 0) ⟨hx, hb, hml, hown, hts⟩ (d_X7_fitsTold l E Z v a1 x5_6 i2 h_i2 a3 hs2) gX7_secretsThatFit_X7_fitsTold rfl hV_X7_fitsTold ⟨Nat.le_of_ble_eq_true rfl, Nat.le_of_ble_eq_true rfl⟩ hK hw (by decide) (by decide) rfl rfl rfl hl.1 rfl (Nat.le_of_ble_eq_true rfl) dX7_secretsThatFit_26 rfl rfl (fun r3 v4 H locs hp hw => ?_)
        obtain ⟨hp, hzr3⟩ := hp
        obtain ⟨hp, rfl⟩ := hp
        have hF := hF.trans (kb_some hp _)
        have hs5 : g_X7_bit v r3 ≠ none := fun q => hs (hF.trans (kb_n q _))
        refine km_cS (As := [.int r3]) (rest := [.int x4_6]) (n := 1) ⟨hx, hb, hml, hown, hts⟩ (d_X7_bit l E Z v r3 hs5) gX7_secretsThatFit_X7_bit rfl hV_X7_bit ⟨Nat.le_of_ble_eq_true rfl, Nat.le_of_ble_eq_true rfl⟩ hK hw rfl hl.1 rfl (Nat.le_of_ble_eq_true rfl) dX7_secretsThatFit_29 rfl rfl (fun r6 v7 H locs hp hw => ?_)
        obtain ⟨hp, rfl⟩ := hp
        have hF := hF.trans (kb_some hp _)
        refine lv_iload hx hb dX7_secretsThatFit_32 (lv_at hl 5 rfl) ?_
        refine lv_ishl hx hb dX7_secretsThatFit_34 ?_
        refine lv_ior hx hb dX7_secretsThatFit_35 ?_
        refine lv_istore (lv' := [(4, .int (x4_6 ||| (r6 <<< (x5_6 &&& 31)))), (0, .ref (Z.1 0 0)), (1, .int a1), (2, .ref (Z.1 2 i2)), (3, .int a3), (5, .int x5_6)]) hx hb dX7_secretsThatFit_36 hl (by decide) rfl (fun ls hl => ?_)
        refine lv_iinc (v := x5_6 + 1) (lv' := [(5, .int (x5_6 + 1)), (4, .int (x4_6 ||| (r6 <<< (x5_6 &&& 31)))), (0, .ref (Z.1 0 0)), (1, .int a1), (2, .ref (Z.1 2 i2)), (3, .int a3)]) hx hb dX7_secretsThatFit_38 hl (k := 5) rfl rfl (by decide) rfl (fun ls hl => ?_)
        refine lv_goto (tgt := 6) hx hb dX7_secretsThatFit_41 (by decide) ?_
        have hl := lv_sub (l' := [(0, .ref (Z.1 0 0)), (1, .int a1), (2, .ref (Z.1 2 i2)), (3, .int a3), (4, .int (x4_6 ||| (r6 <<< (x5_6 &&& 31)))), (5, .int (x5_6 + 1))]) hl [2, 3, 4, 5, 1, 0] rfl
        exact ih6 (x4_6 ||| (r6 <<< (x5_6 &&& 31))) (x5_6 + 1) _ _ _ hF hw hl
  refine lv_iconst (v := 0) hx hb dX7_secretsThatFit_0 (by decide) ?_
  refine lv_istore (lv' := [(4, .int 0), (0, .ref (Z.1 0 0)), (1, .int a1), (2, .ref (Z.1 2 i2)), (3, .int a3)]) hx hb dX7_secretsThatFit_1 hl (by decide) rfl (fun ls hl => ?_)
  refine lv_iconst (v := 0) hx hb dX7_secretsThatFit_3 (by decide) ?_
  refine lv_istore (lv' := [(5, .int 0), (4, .int 0), (0, .ref (Z.1 0 0)), (1, .int a1), (2, .ref (Z.1 2 i2)), (3, .int a3)]) hx hb dX7_secretsThatFit_4 hl (by decide) rfl (fun ls hl => ?_)
  have hl := lv_sub (l' := [(0, .ref (Z.1 0 0)), (1, .int a1), (2, .ref (Z.1 2 i2)), (3, .int a3), (4, .int 0), (5, .int 0)]) hl [2, 3, 4, 5, 1, 0] rfl
  exact loop6 2000 0 0 _ _ _ hF hw hl
abbrev rmX7_fits : Room := { frames := 4, cells := 0, slots := 0, locals := 98 }
def g_X7_fits (v : Mm) (a1 : Int32) (a2 : Int32) (a3 : Int32) (a4 : Int32) : Option (Int32 × Mm) := Option.bind (g_X7_isGuard v a1) (fun r2 => if r2 = 0 then (some ((-1000001), v)) else (Option.bind (g_X7_isRow v a2) (fun r6 => if r6 = 0 then (some ((-1000001), v)) else (if a4 < 0 then (some ((-1000001), v)) else (if a4 ≤ 1 then (if a2 < 0 ∨ 8 ≤ Int32.toNatClampNeg a2 then none else (Option.bind (g_X5_findingOf v ((Int32.toNatClampNeg a2)) a3 (v 6 0 6)) (fun r13 => if r13 = 0 then (if a4 = 0 then (if a2 < 0 ∨ 8 ≤ Int32.toNatClampNeg a2 then none else (Option.bind (g_X7_kindsThatFit v ((Int32.toNatClampNeg a2)) a3) (fun r27 => kb2 (g_X7_unfound v r27) (fun r30 v31 => some (r30, v31))))) else (if a1 < 0 ∨ 4 ≤ Int32.toNatClampNeg a1 then none else (if a2 < 0 ∨ 8 ≤ Int32.toNatClampNeg a2 then none else (Option.bind (g_X7_secretsThatFit v (v 8 0 (Int32.toNatClampNeg a1)) ((Int32.toNatClampNeg a2)) a3) (fun r20 => kb2 (g_X7_unfound v r20) (fun r23 v24 => some (r23, v24))))))) else (kb2 (g_X7_found v r13) (fun r33 v34 => some (r33, v34)))))) else (some ((-1000001), v)))))))
set_option maxHeartbeats 4000000 in
set_option maxRecDepth 100000 in
theorem d_X7_fits (l : Launch) (E : kq_T) (Z : km_Z) (v : Mm) (a1 : Int32) (a2 : Int32) (a3 : Int32) (a4 : Int32) (hs : g_X7_fits v a1 a2 a3 a4 ≠ none) : km_I l E Z cntX yX7_fits wsX7_fits rmX7_fits [.ref (Z.1 0 0), .int a1, .int a2, .int a3, .int a4] v (fun r v1 => g_X7_fits v a1 a2 a3 a4 = some (r, v1)) := by
  refine km_goI (cc := cX7_fits) (maxL := 6) (by decide) rfl (Nat.le_of_ble_eq_true rfl) rfl rfl rfl ?_
  intro p e s m below meth c A ls Q C hK hw hl hret
  obtain ⟨hx, hb, hml, hown, hts, -, -, -⟩ := C
  have hown : s.vm.findClass RX7 = some m.cls := hown
  have hl : lv_has ls 6 [(0, .ref (Z.1 0 0)), (1, .int a1), (2, .int a2), (3, .int a3), (4, .int a4)] := hl
  have hF := g_X7_fits.eq_1 v a1 a2 a3 a4
  refine lv_aload_n hx hb dX7_fits_0 rfl (lv_at hl 0 rfl) ?_
  refine lv_iload_n hx hb dX7_fits_1 rfl (lv_at hl 1 rfl) ?_
  have hs1 : g_X7_isGuard v a1 ≠ none := fun q => hs (hF.trans (kb_n q _))
  refine km_cI (As := [.int a1]) (rest := []) (n := 1) (q := (RX7, TX7, 9)) (ci := 7) (t := 0) (i := 0) ⟨hx, hb, hml, hown, hts⟩ (d_X7_isGuard l E Z v a1 hs1) gX7_fits_X7_isGuard rfl hV_X7_isGuard ⟨Nat.le_of_ble_eq_true rfl, Nat.le_of_ble_eq_true rfl⟩ hK hw (by decide) (by decide) rfl rfl rfl hl.1 rfl (Nat.le_of_ble_eq_true rfl) dX7_fits_2 rfl rfl (fun r2 v3 H locs hp hw => ?_)
  obtain ⟨hp, hzr2⟩ := hp
  obtain ⟨hp, rfl⟩ := hp
  have hF := hF.trans (kb_some hp _)
  refine lv_if_eq (tgt := 27) hx hb dX7_fits_5 (by decide) (fun c4 => ?_) (fun c4 => ?_)
  · skip
    have hF := hF.trans (if_pos c4)
    refine lv_ldc (v := (-1000001)) hx hb hown (hts (.constant RX7 59 (-1000001)) ow_X7_fits_59) dX7_fits_27 ?_
    exact hret _ _ _ _ _ _ hw dX7_fits_29 hF
  · skip
    have hF := hF.trans (if_neg c4)
    refine lv_aload_n hx hb dX7_fits_8 rfl (lv_at hl 0 rfl) ?_
    refine lv_iload_n hx hb dX7_fits_9 rfl (lv_at hl 2 rfl) ?_
    have hs5 : g_X7_isRow v a2 ≠ none := fun q => hs (hF.trans (kb_n q _))
    refine km_cI (As := [.int a2]) (rest := []) (n := 1) (q := (RX7, TX7, 9)) (ci := 7) (t := 0) (i := 0) ⟨hx, hb, hml, hown, hts⟩ (d_X7_isRow l E Z v a2 hs5) gX7_fits_X7_isRow rfl hV_X7_isRow ⟨Nat.le_of_ble_eq_true rfl, Nat.le_of_ble_eq_true rfl⟩ hK hw (by decide) (by decide) rfl rfl rfl hl.1 rfl (Nat.le_of_ble_eq_true rfl) dX7_fits_10 rfl rfl (fun r6 v7 H locs hp hw => ?_)
    obtain ⟨hp, hzr6⟩ := hp
    obtain ⟨hp, rfl⟩ := hp
    have hF := hF.trans (kb_some hp _)
    refine lv_if_eq (tgt := 27) hx hb dX7_fits_13 (by decide) (fun c8 => ?_) (fun c8 => ?_)
    · skip
      have hF := hF.trans (if_pos c8)
      refine lv_ldc (v := (-1000001)) hx hb hown (hts (.constant RX7 59 (-1000001)) ow_X7_fits_59) dX7_fits_27 ?_
      exact hret _ _ _ _ _ _ hw dX7_fits_29 hF
    · skip
      have hF := hF.trans (if_neg c8)
      refine lv_iload hx hb dX7_fits_16 (lv_at hl 4 rfl) ?_
      refine lv_if_lt (tgt := 27) hx hb dX7_fits_18 (by decide) (fun c9 => ?_) (fun c9 => ?_)
      · skip
        have hF := hF.trans (if_pos c9)
        refine lv_ldc (v := (-1000001)) hx hb hown (hts (.constant RX7 59 (-1000001)) ow_X7_fits_59) dX7_fits_27 ?_
        exact hret _ _ _ _ _ _ hw dX7_fits_29 hF
      · skip
        have hF := hF.trans (if_neg c9)
        refine lv_iload hx hb dX7_fits_21 (lv_at hl 4 rfl) ?_
        refine lv_iconst (v := 1) hx hb dX7_fits_23 (by decide) ?_
        refine lv_icmp_le (tgt := 30) hx hb dX7_fits_24 (by decide) (fun c10 => ?_) (fun c10 => ?_)
        · skip
          have hF := hF.trans (if_pos c10)
          refine lv_aload_n hx hb dX7_fits_30 rfl (lv_at hl 0 rfl) ?_
          refine km_get (ci := 7) (C := RX7) (T := TX7) (N := 9) (t := 0) (i := 0) hx hb hts fi_X7_fits_X7 hown hK hw (by decide) (by decide) rfl rfl 0 (by decide) (hts (.fieldLink RX7 11 "WrongWord" "rows" "[LWrongWord$Row;") ow_X7_fits_11) rfl dX7_fits_31 ?_
          refine lv_iload_n hx hb dX7_fits_34 rfl (lv_at hl 2 rfl) ?_
          have hb11 : ¬ (a2 < 0 ∨ 8 ≤ Int32.toNatClampNeg a2) := fun q => hs (hF.trans (if_pos q))
          have hF := hF.trans (if_neg hb11)
          refine km_rows hx hb hK hw (by decide) hb11 dX7_fits_35 ?_
          refine lv_iload_n hx hb dX7_fits_36 rfl (lv_at hl 3 rfl) ?_
          refine lv_aload_n hx hb dX7_fits_37 rfl (lv_at hl 0 rfl) ?_
          refine km_get (ci := 7) (C := RX7) (T := TX7) (N := 9) (t := 0) (i := 0) hx hb hts fi_X7_fits_X7 hown hK hw (by decide) (by decide) rfl rfl 2 (by decide) (hts (.fieldLink RX7 25 "WrongWord" "gate" "LWrongWord$Gate;") ow_X7_fits_25) rfl dX7_fits_38 ?_
          refine km_get (ci := 2) (C := RX2) (T := TX2) (N := 8) (t := 6) (i := 0) hx hb hts fi_X7_fits_X2 hown hK hw (by decide) (by decide) rfl rfl 6 (by decide) (hts (.fieldLink RX7 130 "WrongWord$Gate" "words" "I") ow_X7_fits_130) rfl dX7_fits_41 ?_
          have hs12 : g_X5_findingOf v ((Int32.toNatClampNeg a2)) a3 (v 6 0 6) ≠ none := fun q => hs (hF.trans (kb_n q _))
          refine km_cI (As := [.int a3, .int (v 6 0 6)]) (rest := []) (n := 2) (q := (RX5, TX5, 3)) (ci := 5) (t := 2) (i := (Int32.toNatClampNeg a2)) ⟨hx, hb, hml, hown, hts⟩ (d_X5_findingOf l E Z v ((Int32.toNatClampNeg a2)) (Nat.not_le.mp fun h9 => hb11 (Or.inr h9)) a3 (v 6 0 6) hs12) gX7_fits_X5_findingOf rfl hV_X5_findingOf ⟨Nat.le_of_ble_eq_true rfl, Nat.le_of_ble_eq_true rfl⟩ hK hw (by decide) (Nat.not_le.mp fun h9 => hb11 (Or.inr h9)) rfl rfl rfl hl.1 rfl (Nat.le_of_ble_eq_true rfl) dX7_fits_44 rfl rfl (fun r13 v14 H locs hp hw => ?_)
          obtain ⟨hp, rfl⟩ := hp
          have hF := hF.trans (kb_some hp _)
          refine lv_istore (lv' := [(5, .int r13), (0, .ref (Z.1 0 0)), (1, .int a1), (2, .int a2), (3, .int a3), (4, .int a4)]) hx hb dX7_fits_47 hl (by decide) rfl (fun ls hl => ?_)
          refine lv_iload hx hb dX7_fits_49 (lv_at hl 0 rfl) ?_
          refine lv_if_eq (tgt := 61) hx hb dX7_fits_51 (by decide) (fun c15 => ?_) (fun c15 => ?_)
          · skip
            have hF := hF.trans (if_pos c15)
            refine lv_aload_n hx hb dX7_fits_61 rfl (lv_at hl 1 rfl) ?_
            refine lv_iload hx hb dX7_fits_62 (lv_at hl 5 rfl) ?_
            refine lv_if_ne (tgt := 81) hx hb dX7_fits_64 (by decide) (fun c16 => ?_) (fun c16 => ?_)
            · skip
              have hF := hF.trans (if_neg c16)
              refine lv_aload_n hx hb dX7_fits_81 rfl (lv_at hl 1 rfl) ?_
              refine lv_aload_n hx hb dX7_fits_82 rfl (lv_at hl 1 rfl) ?_
              refine km_get (ci := 7) (C := RX7) (T := TX7) (N := 9) (t := 0) (i := 0) hx hb hts fi_X7_fits_X7 hown hK hw (by decide) (by decide) rfl rfl 2 (by decide) (hts (.fieldLink RX7 25 "WrongWord" "gate" "LWrongWord$Gate;") ow_X7_fits_25) rfl dX7_fits_83 ?_
              refine km_get (ci := 2) (C := RX2) (T := TX2) (N := 8) (t := 6) (i := 0) hx hb hts fi_X7_fits_X2 hown hK hw (by decide) (by decide) rfl rfl 1 (by decide) (hts (.fieldLink RX7 278 "WrongWord$Gate" "kinds" "[I") ow_X7_fits_278) rfl dX7_fits_86 ?_
              refine lv_iload_n hx hb dX7_fits_89 rfl (lv_at hl 2 rfl) ?_
              have hb17 : ¬ (a1 < 0 ∨ 4 ≤ Int32.toNatClampNeg a1) := fun q => hs (hF.trans (if_pos q))
              have hF := hF.trans (if_neg hb17)
              refine km_iald (t := 8) (i := 0) hx hb hK hw (by decide) (by decide) rfl hb17 dX7_fits_90 ?_
              refine lv_aload_n hx hb dX7_fits_91 rfl (lv_at hl 1 rfl) ?_
              refine km_get (ci := 7) (C := RX7) (T := TX7) (N := 9) (t := 0) (i := 0) hx hb hts fi_X7_fits_X7 hown hK hw (by decide) (by decide) rfl rfl 0 (by decide) (hts (.fieldLink RX7 11 "WrongWord" "rows" "[LWrongWord$Row;") ow_X7_fits_11) rfl dX7_fits_92 ?_
              refine lv_iload_n hx hb dX7_fits_95 rfl (lv_at hl 3 rfl) ?_
              have hb18 : ¬ (a2 < 0 ∨ 8 ≤ Int32.toNatClampNeg a2) := fun q => hs (hF.trans (if_pos q))
              have hF := hF.trans (if_neg hb18)
              refine km_rows hx hb hK hw (by decide) hb18 dX7_fits_96 ?_
              refine lv_iload_n hx hb dX7_fits_97 rfl (lv_at hl 4 rfl) ?_
              have hs19 : g_X7_secretsThatFit v (v 8 0 (Int32.toNatClampNeg a1)) ((Int32.toNatClampNeg a2)) a3 ≠ none := fun q => hs (hF.trans (kb_n q _))
              refine km_cI (As := [.int (v 8 0 (Int32.toNatClampNeg a1)), .ref (Z.1 2 ((Int32.toNatClampNeg a2))), .int a3]) (rest := [.ref (Z.1 0 0)]) (n := 3) (q := (RX7, TX7, 9)) (ci := 7) (t := 0) (i := 0) ⟨hx, hb, hml, hown, hts⟩ (d_X7_secretsThatFit l E Z v (v 8 0 (Int32.toNatClampNeg a1)) ((Int32.toNatClampNeg a2)) (Nat.not_le.mp fun h9 => hb18 (Or.inr h9)) a3 hs19) gX7_fits_X7_secretsThatFit rfl hV_X7_secretsThatFit ⟨Nat.le_of_ble_eq_true rfl, Nat.le_of_ble_eq_true rfl⟩ hK hw (by decide) (by decide) rfl rfl rfl hl.1 rfl (Nat.le_of_ble_eq_true rfl) dX7_fits_98 rfl rfl (fun r20 v21 H locs hp hw => ?_)
              obtain ⟨hp, rfl⟩ := hp
              have hF := hF.trans (kb_some hp _)
              have hs22 : g_X7_unfound v r20 ≠ none := fun q => hs (hF.trans (kb2_n q _))
              refine km_cI (As := [.int r20]) (rest := []) (n := 1) (q := (RX7, TX7, 9)) (ci := 7) (t := 0) (i := 0) ⟨hx, hb, hml, hown, hts⟩ (d_X7_unfound l E Z v r20 hs22) gX7_fits_X7_unfound rfl hV_X7_unfound ⟨Nat.le_of_ble_eq_true rfl, Nat.le_of_ble_eq_true rfl⟩ hK hw (by decide) (by decide) rfl rfl rfl hl.1 rfl (Nat.le_of_ble_eq_true rfl) dX7_fits_101 rfl rfl (fun r23 v24 H locs hp hw => ?_)
              have hF := hF.trans (kb2_some hp _)
              exact hret _ _ _ _ _ _ hw dX7_fits_104 hF
            · skip
              have hF := hF.trans (if_pos c16)
              refine lv_aload_n hx hb dX7_fits_67 rfl (lv_at hl 1 rfl) ?_
              refine lv_aload_n hx hb dX7_fits_68 rfl (lv_at hl 1 rfl) ?_
              refine km_get (ci := 7) (C := RX7) (T := TX7) (N := 9) (t := 0) (i := 0) hx hb hts fi_X7_fits_X7 hown hK hw (by decide) (by decide) rfl rfl 0 (by decide) (hts (.fieldLink RX7 11 "WrongWord" "rows" "[LWrongWord$Row;") ow_X7_fits_11) rfl dX7_fits_69 ?_
              refine lv_iload_n hx hb dX7_fits_72 rfl (lv_at hl 3 rfl) ?_
              have hb25 : ¬ (a2 < 0 ∨ 8 ≤ Int32.toNatClampNeg a2) := fun q => hs (hF.trans (if_pos q))
              have hF := hF.trans (if_neg hb25)
              refine km_rows hx hb hK hw (by decide) hb25 dX7_fits_73 ?_
              refine lv_iload_n hx hb dX7_fits_74 rfl (lv_at hl 4 rfl) ?_
              have hs26 : g_X7_kindsThatFit v ((Int32.toNatClampNeg a2)) a3 ≠ none := fun q => hs (hF.trans (kb_n q _))
              refine km_cI (As := [.ref (Z.1 2 ((Int32.toNatClampNeg a2))), .int a3]) (rest := [.ref (Z.1 0 0)]) (n := 2) (q := (RX7, TX7, 9)) (ci := 7) (t := 0) (i := 0) ⟨hx, hb, hml, hown, hts⟩ (d_X7_kindsThatFit l E Z v ((Int32.toNatClampNeg a2)) (Nat.not_le.mp fun h9 => hb25 (Or.inr h9)) a3 hs26) gX7_fits_X7_kindsThatFit rfl hV_X7_kindsThatFit ⟨Nat.le_of_ble_eq_true rfl, Nat.le_of_ble_eq_true rfl⟩ hK hw (by decide) (by decide) rfl rfl rfl hl.1 rfl (Nat.le_of_ble_eq_true rfl) dX7_fits_75 rfl rfl (fun r27 v28 H locs hp hw => ?_)
              obtain ⟨hp, rfl⟩ := hp
              have hF := hF.trans (kb_some hp _)
              refine lv_goto (tgt := 101) hx hb dX7_fits_78 (by decide) ?_
              have hs29 : g_X7_unfound v r27 ≠ none := fun q => hs (hF.trans (kb2_n q _))
              refine km_cI (As := [.int r27]) (rest := []) (n := 1) (q := (RX7, TX7, 9)) (ci := 7) (t := 0) (i := 0) ⟨hx, hb, hml, hown, hts⟩ (d_X7_unfound l E Z v r27 hs29) gX7_fits_X7_unfound rfl hV_X7_unfound ⟨Nat.le_of_ble_eq_true rfl, Nat.le_of_ble_eq_true rfl⟩ hK hw (by decide) (by decide) rfl rfl rfl hl.1 rfl (Nat.le_of_ble_eq_true rfl) dX7_fits_101 rfl rfl (fun r30 v31 H locs hp hw => ?_)
              have hF := hF.trans (kb2_some hp _)
              exact hret _ _ _ _ _ _ hw dX7_fits_104 hF
          · skip
            have hF := hF.trans (if_neg c15)
            refine lv_aload_n hx hb dX7_fits_54 rfl (lv_at hl 1 rfl) ?_
            refine lv_iload hx hb dX7_fits_55 (lv_at hl 0 rfl) ?_
            have hs32 : g_X7_found v r13 ≠ none := fun q => hs (hF.trans (kb2_n q _))
            refine km_cI (As := [.int r13]) (rest := []) (n := 1) (q := (RX7, TX7, 9)) (ci := 7) (t := 0) (i := 0) ⟨hx, hb, hml, hown, hts⟩ (d_X7_found l E Z v r13 hs32) gX7_fits_X7_found rfl hV_X7_found ⟨Nat.le_of_ble_eq_true rfl, Nat.le_of_ble_eq_true rfl⟩ hK hw (by decide) (by decide) rfl rfl rfl hl.1 rfl (Nat.le_of_ble_eq_true rfl) dX7_fits_57 rfl rfl (fun r33 v34 H locs hp hw => ?_)
            have hF := hF.trans (kb2_some hp _)
            exact hret _ _ _ _ _ _ hw dX7_fits_60 hF
        · skip
          have hF := hF.trans (if_neg c10)
          refine lv_ldc (v := (-1000001)) hx hb hown (hts (.constant RX7 59 (-1000001)) ow_X7_fits_59) dX7_fits_27 ?_
          exact hret _ _ _ _ _ _ hw dX7_fits_29 hF
