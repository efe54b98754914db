abbrev rmX8_readsGuard : Room := { frames := 4, cells := 0, slots := 0, locals := 88 }
def g_X8_readsGuard (v : Mm)  : Option (Mm) := Option.bind (g_X8_kindOf v (v 30 0 12)) (fun r2 => if 4 ≤ v 37 0 (Int32.toNatClampNeg 4) then (kb2 (g_X8_takes v 0 3) (fun r6 v7 => if 4 ≤ v7 37 0 (Int32.toNatClampNeg 4) then (kb2 (g_X8_figure v7 0 9) (fun r10 v11 => if v11 30 0 11 = 4 then (kb2 (g_X8_takes v11 1 1) (fun r27 v28 => Option.bind (g_X8_isWell v28) (fun r30 => if r30 = 0 then (some v28) else (if (26 : Int32) + ((3 : Int32) * 0) < 0 ∨ 65 ≤ Int32.toNatClampNeg ((26 : Int32) + ((3 : Int32) * 0)) then none else (Option.bind (some (up3 v28 37 0 (Int32.toNatClampNeg ((26 : Int32) + ((3 : Int32) * 0))) r2)) (fun v34 => if ((26 : Int32) + ((3 : Int32) * 0)) + 1 < 0 ∨ 65 ≤ Int32.toNatClampNeg (((26 : Int32) + ((3 : Int32) * 0)) + 1) then none else (Option.bind (some (up3 v34 37 0 (Int32.toNatClampNeg (((26 : Int32) + ((3 : Int32) * 0)) + 1)) r10)) (fun v36 => Option.bind (some (up3 v36 37 0 (Int32.toNatClampNeg 6) ((v36 37 0 (Int32.toNatClampNeg 6)) ||| ((1 : Int32) <<< ((v36 37 0 (Int32.toNatClampNeg 4)) &&& 31))))) (fun v37 => Option.bind (some (up3 v37 37 0 (Int32.toNatClampNeg 4) ((v37 37 0 (Int32.toNatClampNeg 4)) + 1))) (fun v38 => some v38)))))))))) else (kb2 (g_X8_takes v11 0 1) (fun r14 v15 => Option.bind (g_X8_isWell v15) (fun r17 => if r17 = 0 then (some v15) else (if (26 : Int32) + ((3 : Int32) * 0) < 0 ∨ 65 ≤ Int32.toNatClampNeg ((26 : Int32) + ((3 : Int32) * 0)) then none else (Option.bind (some (up3 v15 37 0 (Int32.toNatClampNeg ((26 : Int32) + ((3 : Int32) * 0))) r2)) (fun v21 => if ((26 : Int32) + ((3 : Int32) * 0)) + 1 < 0 ∨ 65 ≤ Int32.toNatClampNeg (((26 : Int32) + ((3 : Int32) * 0)) + 1) then none else (Option.bind (some (up3 v21 37 0 (Int32.toNatClampNeg (((26 : Int32) + ((3 : Int32) * 0)) + 1)) r10)) (fun v23 => Option.bind (some (up3 v23 37 0 (Int32.toNatClampNeg 6) ((v23 37 0 (Int32.toNatClampNeg 6)) ||| ((1 : Int32) <<< ((v23 37 0 (Int32.toNatClampNeg 4)) &&& 31))))) (fun v24 => Option.bind (some (up3 v24 37 0 (Int32.toNatClampNeg 4) ((v24 37 0 (Int32.toNatClampNeg 4)) + 1))) (fun v25 => some v25)))))))))))) else (Option.bind (some ((26 : Int32) + ((3 : Int32) * (v7 37 0 (Int32.toNatClampNeg 4))))) (fun x39 => kb2 (g_X8_figure v7 0 9) (fun r41 v42 => if v42 30 0 11 = 4 then (kb2 (g_X8_takes v42 1 1) (fun r58 v59 => Option.bind (g_X8_isWell v59) (fun r61 => if r61 = 0 then (some v59) else (if x39 < 0 ∨ 65 ≤ Int32.toNatClampNeg x39 then none else (Option.bind (some (up3 v59 37 0 (Int32.toNatClampNeg x39) r2)) (fun v65 => if x39 + 1 < 0 ∨ 65 ≤ Int32.toNatClampNeg (x39 + 1) then none else (Option.bind (some (up3 v65 37 0 (Int32.toNatClampNeg (x39 + 1)) r41)) (fun v67 => Option.bind (some (up3 v67 37 0 (Int32.toNatClampNeg 6) ((v67 37 0 (Int32.toNatClampNeg 6)) ||| ((1 : Int32) <<< ((v67 37 0 (Int32.toNatClampNeg 4)) &&& 31))))) (fun v68 => Option.bind (some (up3 v68 37 0 (Int32.toNatClampNeg 4) ((v68 37 0 (Int32.toNatClampNeg 4)) + 1))) (fun v69 => some v69)))))))))) else (kb2 (g_X8_takes v42 0 1) (fun r45 v46 => Option.bind (g_X8_isWell v46) (fun r48 => if r48 = 0 then (some v46) else (if x39 < 0 ∨ 65 ≤ Int32.toNatClampNeg x39 then none else (Option.bind (some (up3 v46 37 0 (Int32.toNatClampNeg x39) r2)) (fun v52 => if x39 + 1 < 0 ∨ 65 ≤ Int32.toNatClampNeg (x39 + 1) then none else (Option.bind (some (up3 v52 37 0 (Int32.toNatClampNeg (x39 + 1)) r41)) (fun v54 => Option.bind (some (up3 v54 37 0 (Int32.toNatClampNeg 6) ((v54 37 0 (Int32.toNatClampNeg 6)) ||| ((1 : Int32) <<< ((v54 37 0 (Int32.toNatClampNeg 4)) &&& 31))))) (fun v55 => Option.bind (some (up3 v55 37 0 (Int32.toNatClampNeg 4) ((v55 37 0 (Int32.toNatClampNeg 4)) + 1))) (fun v56 => some v56))))))))))))))) else (kb2 (g_X8_takes v 1 3) (fun r71 v72 => if 4 ≤ v72 37 0 (Int32.toNatClampNeg 4) then (kb2 (g_X8_figure v72 0 9) (fun r75 v76 => if v76 30 0 11 = 4 then (kb2 (g_X8_takes v76 1 1) (fun r92 v93 => Option.bind (g_X8_isWell v93) (fun r95 => if r95 = 0 then (some v93) else (if (26 : Int32) + ((3 : Int32) * 0) < 0 ∨ 65 ≤ Int32.toNatClampNeg ((26 : Int32) + ((3 : Int32) * 0)) then none else (Option.bind (some (up3 v93 37 0 (Int32.toNatClampNeg ((26 : Int32) + ((3 : Int32) * 0))) r2)) (fun v99 => if ((26 : Int32) + ((3 : Int32) * 0)) + 1 < 0 ∨ 65 ≤ Int32.toNatClampNeg (((26 : Int32) + ((3 : Int32) * 0)) + 1) then none else (Option.bind (some (up3 v99 37 0 (Int32.toNatClampNeg (((26 : Int32) + ((3 : Int32) * 0)) + 1)) r75)) (fun v101 => Option.bind (some (up3 v101 37 0 (Int32.toNatClampNeg 6) ((v101 37 0 (Int32.toNatClampNeg 6)) ||| ((1 : Int32) <<< ((v101 37 0 (Int32.toNatClampNeg 4)) &&& 31))))) (fun v102 => Option.bind (some (up3 v102 37 0 (Int32.toNatClampNeg 4) ((v102 37 0 (Int32.toNatClampNeg 4)) + 1))) (fun v103 => some v103)))))))))) else (kb2 (g_X8_takes v76 0 1) (fun r79 v80 => Option.bind (g_X8_isWell v80) (fun r82 => if r82 = 0 then (some v80) else (if (26 : Int32) + ((3 : Int32) * 0) < 0 ∨ 65 ≤ Int32.toNatClampNeg ((26 : Int32) + ((3 : Int32) * 0)) then none else (Option.bind (some (up3 v80 37 0 (Int32.toNatClampNeg ((26 : Int32) + ((3 : Int32) * 0))) r2)) (fun v86 => if ((26 : Int32) + ((3 : Int32) * 0)) + 1 < 0 ∨ 65 ≤ Int32.toNatClampNeg (((26 : Int32) + ((3 : Int32) * 0)) + 1) then none else (Option.bind (some (up3 v86 37 0 (Int32.toNatClampNeg (((26 : Int32) + ((3 : Int32) * 0)) + 1)) r75)) (fun v88 => Option.bind (some (up3 v88 37 0 (Int32.toNatClampNeg 6) ((v88 37 0 (Int32.toNatClampNeg 6)) ||| ((1 : Int32) <<< ((v88 37 0 (Int32.toNatClampNeg 4)) &&& 31))))) (fun v89 => Option.bind (some (up3 v89 37 0 (Int32.toNatClampNeg 4) ((v89 37 0 (Int32.toNatClampNeg 4)) + 1))) (fun v90 => some v90)))))))))))) else (Option.bind (some ((26 : Int32) + ((3 : Int32) * (v72 37 0 (Int32.toNatClampNeg 4))))) (fun x104 => kb2 (g_X8_figure v72 0 9) (fun r106 v107 => if v107 30 0 11 = 4 then (kb2 (g_X8_takes v107 1 1) (fun r123 v124 => Option.bind (g_X8_isWell v124) (fun r126 => if r126 = 0 then (some v124) else (if x104 < 0 ∨ 65 ≤ Int32.toNatClampNeg x104 then none else (Option.bind (some (up3 v124 37 0 (Int32.toNatClampNeg x104) r2)) (fun v130 => if x104 + 1 < 0 ∨ 65 ≤ Int32.toNatClampNeg (x104 + 1) then none else (Option.bind (some (up3 v130 37 0 (Int32.toNatClampNeg (x104 + 1)) r106)) (fun v132 => Option.bind (some (up3 v132 37 0 (Int32.toNatClampNeg 6) ((v132 37 0 (Int32.toNatClampNeg 6)) ||| ((1 : Int32) <<< ((v132 37 0 (Int32.toNatClampNeg 4)) &&& 31))))) (fun v133 => Option.bind (some (up3 v133 37 0 (Int32.toNatClampNeg 4) ((v133 37 0 (Int32.toNatClampNeg 4)) + 1))) (fun v134 => some v134)))))))))) else (kb2 (g_X8_takes v107 0 1) (fun r110 v111 => Option.bind (g_X8_isWell v111) (fun r113 => if r113 = 0 then (some v111) else (if x104 < 0 ∨ 65 ≤ Int32.toNatClampNeg x104 then none else (Option.bind (some (up3 v111 37 0 (Int32.toNatClampNeg x104) r2)) (fun v117 => if x104 + 1 < 0 ∨ 65 ≤ Int32.toNatClampNeg (x104 + 1) then none else (Option.bind (some (up3 v117 37 0 (Int32.toNatClampNeg (x104 + 1)) r106)) (fun v119 => Option.bind (some (up3 v119 37 0 (Int32.toNatClampNeg 6) ((v119 37 0 (Int32.toNatClampNeg 6)) ||| ((1 : Int32) <<< ((v119 37 0 (Int32.toNatClampNeg 4)) &&& 31))))) (fun v120 => Option.bind (some (up3 v120 37 0 (Int32.toNatClampNeg 4) ((v120 37 0 (Int32.toNatClampNeg 4)) + 1))) (fun v121 => some v121))))))))))))))))
set_option maxHeartbeats 4000000 in
set_option maxRecDepth 100000 in
theorem d_X8_readsGuard (l : Launch) (E : kq_T) (Z : km_Z) (v : Mm) (hs : g_X8_readsGuard v ≠ none) : km_V l E Z cntM yX8_readsGuard wsX8_readsGuard rmX8_readsGuard [.ref (Z.1 30 0)] v (fun v1 => g_X8_readsGuard v = some v1) := by
  refine km_goV (cc := cX8_readsGuard) (maxL := 4) (by decide) rfl (Nat.le_of_ble_eq_true rfl) rfl rfl rfl ?_
  intro p e s m below meth c A ls Q C hK hw hl hret
  obtain ⟨hx, hb, hml, hown, hts, -, -, -⟩ := C
  have hown : s.vm.findClass RX8 = some m.cls := hown
  have hl : lv_has ls 4 [(0, .ref (Z.1 30 0))] := hl
  have hF := g_X8_readsGuard.eq_1 v 
  refine lv_aload_n hx hb dX8_readsGuard_0 rfl (lv_at hl 0 rfl) ?_
  refine km_get (ci := 8) (C := RX8) (T := TX8) (N := 23) (t := 30) (i := 0) hx hb hts fi_X8_readsGuard_X8 hown hK hw (by decide) (by decide) rfl rfl 12 (by decide) (hts (.fieldLink RX8 95 "WrongWordModel" "value" "I") ow_X8_readsGuard_95) rfl dX8_readsGuard_1 ?_
  have hs1 : g_X8_kindOf v (v 30 0 12) ≠ none := fun q => hs (hF.trans (kb_n q _))
  refine km_cS (As := [.int (v 30 0 12)]) (rest := []) (n := 1) ⟨hx, hb, hml, hown, hts⟩ (d_X8_kindOf l E Z v (v 30 0 12) hs1) gX8_readsGuard_X8_kindOf rfl hV_X8_kindOf ⟨Nat.le_of_ble_eq_true rfl, Nat.le_of_ble_eq_true rfl⟩ hK hw rfl hl.1 rfl (Nat.le_of_ble_eq_true rfl) dX8_readsGuard_4 rfl rfl (fun r2 v3 H locs hp hw => ?_)
  obtain ⟨hp, rfl⟩ := hp
  have hF := hF.trans (kb_some hp _)
  refine lv_istore_n (lv' := [(1, .int r2), (0, .ref (Z.1 30 0))]) hx hb dX8_readsGuard_7 rfl hl (by decide) rfl (fun ls hl => ?_)
  refine lv_aload_n hx hb dX8_readsGuard_8 rfl (lv_at hl 1 rfl) ?_
  refine lv_aload_n hx hb dX8_readsGuard_9 rfl (lv_at hl 1 rfl) ?_
  refine km_get (ci := 8) (C := RX8) (T := TX8) (N := 23) (t := 30) (i := 0) hx hb hts fi_X8_readsGuard_X8 hown hK hw (by decide) (by decide) rfl rfl 14 (by decide) (hts (.fieldLink RX8 28 "WrongWordModel" "draft" "[I") ow_X8_readsGuard_28) rfl dX8_readsGuard_10 ?_
  refine lv_iconst (v := 4) hx hb dX8_readsGuard_13 (by decide) ?_
  refine km_iald (t := 37) (i := 0) hx hb hK hw (by decide) (by decide) rfl (by unfold vp_in; decide) dX8_readsGuard_14 ?_
  refine lv_iconst (v := 4) hx hb dX8_readsGuard_15 (by decide) ?_
  refine lv_icmp_ge (tgt := 23) hx hb dX8_readsGuard_16 (by decide) (fun c4 => ?_) (fun c4 => ?_)
  · skip
    have hF := hF.trans (if_pos c4)
    refine lv_iconst (v := 0) hx hb dX8_readsGuard_23 (by decide) ?_
    refine lv_iconst (v := 3) hx hb dX8_readsGuard_24 (by decide) ?_
    have hs5 : g_X8_takes v 0 3 ≠ none := fun q => hs (hF.trans (kb2_n q _))
    refine km_cI (As := [.int 0, .int 3]) (rest := []) (n := 2) (q := (RX8, TX8, 23)) (ci := 8) (t := 30) (i := 0) ⟨hx, hb, hml, hown, hts⟩ (d_X8_takes l E Z v 0 3 hs5) gX8_readsGuard_X8_takes rfl hV_X8_takes ⟨Nat.le_of_ble_eq_true rfl, Nat.le_of_ble_eq_true rfl⟩ hK hw (by decide) (by decide) rfl rfl rfl hl.1 rfl (Nat.le_of_ble_eq_true rfl) dX8_readsGuard_25 rfl rfl (fun r6 v7 H locs hp hw => ?_)
    have hF := hF.trans (kb2_some hp _)
    refine lv_pop hx hb dX8_readsGuard_28 rfl ?_
    refine lv_bipush (v := 26) hx hb dX8_readsGuard_29 (by decide) ?_
    refine lv_iconst (v := 3) hx hb dX8_readsGuard_31 (by decide) ?_
    refine lv_aload_n hx hb dX8_readsGuard_32 rfl (lv_at hl 1 rfl) ?_
    refine km_get (ci := 8) (C := RX8) (T := TX8) (N := 23) (t := 30) (i := 0) hx hb hts fi_X8_readsGuard_X8 hown hK hw (by decide) (by decide) rfl rfl 14 (by decide) (hts (.fieldLink RX8 28 "WrongWordModel" "draft" "[I") ow_X8_readsGuard_28) rfl dX8_readsGuard_33 ?_
    refine lv_iconst (v := 4) hx hb dX8_readsGuard_36 (by decide) ?_
    refine km_iald (t := 37) (i := 0) hx hb hK hw (by decide) (by decide) rfl (by unfold vp_in; decide) dX8_readsGuard_37 ?_
    refine lv_iconst (v := 4) hx hb dX8_readsGuard_38 (by decide) ?_
    refine lv_icmp_ge (tgt := 51) hx hb dX8_readsGuard_39 (by decide) (fun c8 => ?_) (fun c8 => ?_)
    · skip
      have hF := hF.trans (if_pos c8)
      refine lv_iconst (v := 0) hx hb dX8_readsGuard_51 (by decide) ?_
      refine lv_imul hx hb dX8_readsGuard_52 ?_
      refine lv_iadd hx hb dX8_readsGuard_53 ?_
      refine lv_istore_n (lv' := [(2, .int ((26 : Int32) + ((3 : Int32) * 0))), (1, .int r2), (0, .ref (Z.1 30 0))]) hx hb dX8_readsGuard_54 rfl hl (by decide) rfl (fun ls hl => ?_)
      refine lv_aload_n hx hb dX8_readsGuard_55 rfl (lv_at hl 2 rfl) ?_
      refine lv_iconst (v := 0) hx hb dX8_readsGuard_56 (by decide) ?_
      refine lv_bipush (v := 9) hx hb dX8_readsGuard_57 (by decide) ?_
      have hs9 : g_X8_figure v7 0 9 ≠ none := fun q => hs (hF.trans (kb2_n q _))
      refine km_cI (As := [.int 0, .int 9]) (rest := []) (n := 2) (q := (RX8, TX8, 23)) (ci := 8) (t := 30) (i := 0) ⟨hx, hb, hml, hown, hts⟩ (d_X8_figure l E Z v7 0 9 hs9) gX8_readsGuard_X8_figure rfl hV_X8_figure ⟨Nat.le_of_ble_eq_true rfl, Nat.le_of_ble_eq_true rfl⟩ hK hw (by decide) (by decide) rfl rfl rfl hl.1 rfl (Nat.le_of_ble_eq_true rfl) dX8_readsGuard_59 rfl rfl (fun r10 v11 H locs hp hw => ?_)
      have hF := hF.trans (kb2_some hp _)
      refine lv_istore_n (lv' := [(3, .int r10), (2, .int ((26 : Int32) + ((3 : Int32) * 0))), (1, .int r2), (0, .ref (Z.1 30 0))]) hx hb dX8_readsGuard_62 rfl hl (by decide) rfl (fun ls hl => ?_)
      refine lv_aload_n hx hb dX8_readsGuard_63 rfl (lv_at hl 3 rfl) ?_
      refine lv_aload_n hx hb dX8_readsGuard_64 rfl (lv_at hl 3 rfl) ?_
      refine km_get (ci := 8) (C := RX8) (T := TX8) (N := 23) (t := 30) (i := 0) hx hb hts fi_X8_readsGuard_X8 hown hK hw (by decide) (by decide) rfl rfl 11 (by decide) (hts (.fieldLink RX8 98 "WrongWordModel" "token" "I") ow_X8_readsGuard_98) rfl dX8_readsGuard_65 ?_
      refine lv_iconst (v := 4) hx hb dX8_readsGuard_68 (by decide) ?_
      refine lv_icmp_ne (tgt := 76) hx hb dX8_readsGuard_69 (by decide) (fun c12 => ?_) (fun c12 => ?_)
      · skip
        have hF := hF.trans (if_neg c12)
        refine lv_iconst (v := 0) hx hb dX8_readsGuard_76 (by decide) ?_
        refine lv_iconst (v := 1) hx hb dX8_readsGuard_77 (by decide) ?_
        have hs13 : g_X8_takes v11 0 1 ≠ none := fun q => hs (hF.trans (kb2_n q _))
        refine km_cI (As := [.int 0, .int 1]) (rest := []) (n := 2) (q := (RX8, TX8, 23)) (ci := 8) (t := 30) (i := 0) ⟨hx, hb, hml, hown, hts⟩ (d_X8_takes l E Z v11 0 1 hs13) gX8_readsGuard_X8_takes rfl hV_X8_takes ⟨Nat.le_of_ble_eq_true rfl, Nat.le_of_ble_eq_true rfl⟩ hK hw (by decide) (by decide) rfl rfl rfl hl.1 rfl (Nat.le_of_ble_eq_true rfl) dX8_readsGuard_78 rfl rfl (fun r14 v15 H locs hp hw => ?_)
        have hF := hF.trans (kb2_some hp _)
        refine lv_pop hx hb dX8_readsGuard_81 rfl ?_
        refine lv_aload_n hx hb dX8_readsGuard_82 rfl (lv_at hl 3 rfl) ?_
        have hs16 : g_X8_isWell v15 ≠ none := fun q => hs (hF.trans (kb_n q _))
        refine km_cI (As := []) (rest := []) (n := 0) (q := (RX8, TX8, 23)) (ci := 8) (t := 30) (i := 0) ⟨hx, hb, hml, hown, hts⟩ (d_X8_isWell l E Z v15  hs16) gX8_readsGuard_X8_isWell rfl hV_X8_isWell ⟨Nat.le_of_ble_eq_true rfl, Nat.le_of_ble_eq_true rfl⟩ hK hw (by decide) (by decide) rfl rfl rfl hl.1 rfl (Nat.le_of_ble_eq_true rfl) dX8_readsGuard_83 rfl rfl (fun r17 v18 H locs hp hw => ?_)
        obtain ⟨hp, hzr17⟩ := hp
        obtain ⟨hp, rfl⟩ := hp
        have hF := hF.trans (kb_some hp _)
        refine lv_if_eq (tgt := 133) hx hb dX8_readsGuard_86 (by decide) (fun c19 => ?_) (fun c19 => ?_)
        · skip
          have hF := hF.trans (if_pos c19)
          exact hret _ _ _ _ _ hw dX8_readsGuard_133 hF
        · skip
          have hF := hF.trans (if_neg c19)
          refine lv_aload_n hx hb dX8_readsGuard_89 rfl (lv_at hl 3 rfl) ?_
          refine km_get (ci := 8) (C := RX8) (T := TX8) (N := 23) (t := 30) (i := 0) hx hb hts fi_X8_readsGuard_X8 hown hK hw (by decide) (by decide) rfl rfl 14 (by decide) (hts (.fieldLink RX8 28 "WrongWordModel" "draft" "[I") ow_X8_readsGuard_28) rfl dX8_readsGuard_90 ?_
          refine lv_iload_n hx hb dX8_readsGuard_93 rfl (lv_at hl 1 rfl) ?_
          refine lv_iload_n hx hb dX8_readsGuard_94 rfl (lv_at hl 2 rfl) ?_
          have hb20 : ¬ ((26 : Int32) + ((3 : Int32) * 0) < 0 ∨ 65 ≤ Int32.toNatClampNeg ((26 : Int32) + ((3 : Int32) * 0))) := fun q => hs (hF.trans (if_pos q))
          have hF := hF.trans (if_neg hb20)
          refine km_iast (t := 37) (i := 0) (n := 65) hx hb hK hw (by decide) (by decide) (fun _ => rfl) hb20 dX8_readsGuard_95 (fun H locs hw => ?_)
          obtain ⟨v21, ev21⟩ : ∃ z, z = up3 v15 37 0 (Int32.toNatClampNeg ((26 : Int32) + ((3 : Int32) * 0))) r2 := ⟨_, rfl⟩
          rw [← ev21] at hw
          have hF := hF.trans (kb_some (congrArg some ev21.symm) _)
          refine lv_aload_n hx hb dX8_readsGuard_96 rfl (lv_at hl 3 rfl) ?_
          refine km_get (ci := 8) (C := RX8) (T := TX8) (N := 23) (t := 30) (i := 0) hx hb hts fi_X8_readsGuard_X8 hown hK hw (by decide) (by decide) rfl rfl 14 (by decide) (hts (.fieldLink RX8 28 "WrongWordModel" "draft" "[I") ow_X8_readsGuard_28) rfl dX8_readsGuard_97 ?_
          refine lv_iload_n hx hb dX8_readsGuard_100 rfl (lv_at hl 1 rfl) ?_
          refine lv_iconst (v := 1) hx hb dX8_readsGuard_101 (by decide) ?_
          refine lv_iadd hx hb dX8_readsGuard_102 ?_
          refine lv_iload_n hx hb dX8_readsGuard_103 rfl (lv_at hl 0 rfl) ?_
          have hb22 : ¬ (((26 : Int32) + ((3 : Int32) * 0)) + 1 < 0 ∨ 65 ≤ Int32.toNatClampNeg (((26 : Int32) + ((3 : Int32) * 0)) + 1)) := fun q => hs (hF.trans (if_pos q))
          have hF := hF.trans (if_neg hb22)
          refine km_iast (t := 37) (i := 0) (n := 65) hx hb hK hw (by decide) (by decide) (fun _ => rfl) hb22 dX8_readsGuard_104 (fun H locs hw => ?_)
          obtain ⟨v23, ev23⟩ : ∃ z, z = up3 v21 37 0 (Int32.toNatClampNeg (((26 : Int32) + ((3 : Int32) * 0)) + 1)) r10 := ⟨_, rfl⟩
          rw [← ev23] at hw
          have hF := hF.trans (kb_some (congrArg some ev23.symm) _)
          refine lv_aload_n hx hb dX8_readsGuard_105 rfl (lv_at hl 3 rfl) ?_
          refine km_get (ci := 8) (C := RX8) (T := TX8) (N := 23) (t := 30) (i := 0) hx hb hts fi_X8_readsGuard_X8 hown hK hw (by decide) (by decide) rfl rfl 14 (by decide) (hts (.fieldLink RX8 28 "WrongWordModel" "draft" "[I") ow_X8_readsGuard_28) rfl dX8_readsGuard_106 ?_
          refine lv_bipush (v := 6) hx hb dX8_readsGuard_109 (by decide) ?_
          refine lv_dup2_11 hx hb dX8_readsGuard_111 rfl rfl ?_
          refine km_iald (t := 37) (i := 0) hx hb hK hw (by decide) (by decide) rfl (by unfold vp_in; decide) dX8_readsGuard_112 ?_
          refine lv_iconst (v := 1) hx hb dX8_readsGuard_113 (by decide) ?_
          refine lv_aload_n hx hb dX8_readsGuard_114 rfl (lv_at hl 3 rfl) ?_
          refine km_get (ci := 8) (C := RX8) (T := TX8) (N := 23) (t := 30) (i := 0) hx hb hts fi_X8_readsGuard_X8 hown hK hw (by decide) (by decide) rfl rfl 14 (by decide) (hts (.fieldLink RX8 28 "WrongWordModel" "draft" "[I") ow_X8_readsGuard_28) rfl dX8_readsGuard_115 ?_
          refine lv_iconst (v := 4) hx hb dX8_readsGuard_118 (by decide) ?_
          refine km_iald (t := 37) (i := 0) hx hb hK hw (by decide) (by decide) rfl (by unfold vp_in; decide) dX8_readsGuard_119 ?_
          refine lv_ishl hx hb dX8_readsGuard_120 ?_
          refine lv_ior hx hb dX8_readsGuard_121 ?_
          refine km_iast (t := 37) (i := 0) (n := 65) hx hb hK hw (by decide) (by decide) (fun _ => rfl) (by unfold vp_in; decide) dX8_readsGuard_122 (fun H locs hw => ?_)
          obtain ⟨v24, ev24⟩ : ∃ z, z = up3 v23 37 0 (Int32.toNatClampNeg 6) ((v23 37 0 (Int32.toNatClampNeg 6)) ||| ((1 : Int32) <<< ((v23 37 0 (Int32.toNatClampNeg 4)) &&& 31))) := ⟨_, rfl⟩
          rw [← ev24] at hw
          have hF := hF.trans (kb_some (congrArg some ev24.symm) _)
          refine lv_aload_n hx hb dX8_readsGuard_123 rfl (lv_at hl 3 rfl) ?_
          refine km_get (ci := 8) (C := RX8) (T := TX8) (N := 23) (t := 30) (i := 0) hx hb hts fi_X8_readsGuard_X8 hown hK hw (by decide) (by decide) rfl rfl 14 (by decide) (hts (.fieldLink RX8 28 "WrongWordModel" "draft" "[I") ow_X8_readsGuard_28) rfl dX8_readsGuard_124 ?_
          refine lv_iconst (v := 4) hx hb dX8_readsGuard_127 (by decide) ?_
          refine lv_dup2_11 hx hb dX8_readsGuard_128 rfl rfl ?_
          refine km_iald (t := 37) (i := 0) hx hb hK hw (by decide) (by decide) rfl (by unfold vp_in; decide) dX8_readsGuard_129 ?_
          refine lv_iconst (v := 1) hx hb dX8_readsGuard_130 (by decide) ?_
          refine lv_iadd hx hb dX8_readsGuard_131 ?_
          refine km_iast (t := 37) (i := 0) (n := 65) hx hb hK hw (by decide) (by decide) (fun _ => rfl) (by unfold vp_in; decide) dX8_readsGuard_132 (fun H locs hw => ?_)
          obtain ⟨v25, ev25⟩ : ∃ z, z = up3 v24 37 0 (Int32.toNatClampNeg 4) ((v24 37 0 (Int32.toNatClampNeg 4)) + 1) := ⟨_, rfl⟩
          rw [← ev25] at hw
          have hF := hF.trans (kb_some (congrArg some ev25.symm) _)
          exact hret _ _ _ _ _ hw dX8_readsGuard_133 hF
      · skip
        have hF := hF.trans (if_pos c12)
        refine lv_iconst (v := 1) hx hb dX8_readsGuard_72 (by decide) ?_
        refine lv_goto (tgt := 77) hx hb dX8_readsGuard_73 (by decide) ?_
        refine lv_iconst (v := 1) hx hb dX8_readsGuard_77 (by decide) ?_
        have hs26 : g_X8_takes v11 1 1 ≠ none := fun q => hs (hF.trans (kb2_n q _))
        refine km_cI (As := [.int 1, .int 1]) (rest := []) (n := 2) (q := (RX8, TX8, 23)) (ci := 8) (t := 30) (i := 0) ⟨hx, hb, hml, hown, hts⟩ (d_X8_takes l E Z v11 1 1 hs26) gX8_readsGuard_X8_takes rfl hV_X8_takes ⟨Nat.le_of_ble_eq_true rfl, Nat.le_of_ble_eq_true rfl⟩ hK hw (by decide) (by decide) rfl rfl rfl hl.1 rfl (Nat.le_of_ble_eq_true rfl) dX8_readsGuard_78 rfl rfl (fun r27 v28 H locs hp hw => ?_)
        have hF := hF.trans (kb2_some hp _)
        refine lv_pop hx hb dX8_readsGuard_81 rfl ?_
        refine lv_aload_n hx hb dX8_readsGuard_82 rfl (lv_at hl 3 rfl) ?_
        have hs29 : g_X8_isWell v28 ≠ none := fun q => hs (hF.trans (kb_n q _))
        refine km_cI (As := []) (rest := []) (n := 0) (q := (RX8, TX8, 23)) (ci := 8) (t := 30) (i := 0) ⟨hx, hb, hml, hown, hts⟩ (d_X8_isWell l E Z v28  hs29) gX8_readsGuard_X8_isWell rfl hV_X8_isWell ⟨Nat.le_of_ble_eq_true rfl, Nat.le_of_ble_eq_true rfl⟩ hK hw (by decide) (by decide) rfl rfl rfl hl.1 rfl (Nat.le_of_ble_eq_true rfl) dX8_readsGuard_83 rfl rfl (fun r30 v31 H locs hp hw => ?_)
        obtain ⟨hp, hzr30⟩ := hp
        obtain ⟨hp, rfl⟩ := hp
        have hF := hF.trans (kb_some hp _)
        refine lv_if_eq (tgt := 133) hx hb dX8_readsGuard_86 (by decide) (fun c32 => ?_) (fun c32 => ?_)
        · skip
          have hF := hF.trans (if_pos c32)
          exact hret _ _ _ _ _ hw dX8_readsGuard_133 hF
        · skip
          have hF := hF.trans (if_neg c32)
          refine lv_aload_n hx hb dX8_readsGuard_89 rfl (lv_at hl 3 rfl) ?_
          refine km_get (ci := 8) (C := RX8) (T := TX8) (N := 23) (t := 30) (i := 0) hx hb hts fi_X8_readsGuard_X8 hown hK hw (by decide) (by decide) rfl rfl 14 (by decide) (hts (.fieldLink RX8 28 "WrongWordModel" "draft" "[I") ow_X8_readsGuard_28) rfl dX8_readsGuard_90 ?_
          refine lv_iload_n hx hb dX8_readsGuard_93 rfl (lv_at hl 1 rfl) ?_
          refine lv_iload_n hx hb dX8_readsGuard_94 rfl (lv_at hl 2 rfl) ?_
          have hb33 : ¬ ((26 : Int32) + ((3 : Int32) * 0) < 0 ∨ 65 ≤ Int32.toNatClampNeg ((26 : Int32) + ((3 : Int32) * 0))) := fun q => hs (hF.trans (if_pos q))
          have hF := hF.trans (if_neg hb33)
          refine km_iast (t := 37) (i := 0) (n := 65) hx hb hK hw (by decide) (by decide) (fun _ => rfl) hb33 dX8_readsGuard_95 (fun H locs hw => ?_)
          obtain ⟨v34, ev34⟩ : ∃ z, z = up3 v28 37 0 (Int32.toNatClampNeg ((26 : Int32) + ((3 : Int32) * 0))) r2 := ⟨_, rfl⟩
          rw [← ev34] at hw
          have hF := hF.trans (kb_some (congrArg some ev34.symm) _)
          refine lv_aload_n hx hb dX8_readsGuard_96 rfl (lv_at hl 3 rfl) ?_
          refine km_get (ci := 8) (C := RX8) (T := TX8) (N := 23) (t := 30) (i := 0) hx hb hts fi_X8_readsGuard_X8 hown hK hw (by decide) (by decide) rfl rfl 14 (by decide) (hts (.fieldLink RX8 28 "WrongWordModel" "draft" "[I") ow_X8_readsGuard_28) rfl dX8_readsGuard_97 ?_
          refine lv_iload_n hx hb dX8_readsGuard_100 rfl (lv_at hl 1 rfl) ?_
          refine lv_iconst (v := 1) hx hb dX8_readsGuard_101 (by decide) ?_
          refine lv_iadd hx hb dX8_readsGuard_102 ?_
          refine lv_iload_n hx hb dX8_readsGuard_103 rfl (lv_at hl 0 rfl) ?_
          have hb35 : ¬ (((26 : Int32) + ((3 : Int32) * 0)) + 1 < 0 ∨ 65 ≤ Int32.toNatClampNeg (((26 : Int32) + ((3 : Int32) * 0)) + 1)) := fun q => hs (hF.trans (if_pos q))
          have hF := hF.trans (if_neg hb35)
          refine km_iast (t := 37) (i := 0) (n := 65) hx hb hK hw (by decide) (by decide) (fun _ => rfl) hb35 dX8_readsGuard_104 (fun H locs hw => ?_)
          obtain ⟨v36, ev36⟩ : ∃ z, z = up3 v34 37 0 (Int32.toNatClampNeg (((26 : Int32) + ((3 : Int32) * 0)) + 1)) r10 := ⟨_, rfl⟩
          rw [← ev36] at hw
          have hF := hF.trans (kb_some (congrArg some ev36.symm) _)
          refine lv_aload_n hx hb dX8_readsGuard_105 rfl (lv_at hl 3 rfl) ?_
          refine km_get (ci := 8) (C := RX8) (T := TX8) (N := 23) (t := 30) (i := 0) hx hb hts fi_X8_readsGuard_X8 hown hK hw (by decide) (by decide) rfl rfl 14 (by decide) (hts (.fieldLink RX8 28 "WrongWordModel" "draft" "[I") ow_X8_readsGuard_28) rfl dX8_readsGuard_106 ?_
          refine lv_bipush (v := 6) hx hb dX8_readsGuard_109 (by decide) ?_
          refine lv_dup2_11 hx hb dX8_readsGuard_111 rfl rfl ?_
          refine km_iald (t := 37) (i := 0) hx hb hK hw (by decide) (by decide) rfl (by unfold vp_in; decide) dX8_readsGuard_112 ?_
          refine lv_iconst (v := 1) hx hb dX8_readsGuard_113 (by decide) ?_
          refine lv_aload_n hx hb dX8_readsGuard_114 rfl (lv_at hl 3 rfl) ?_
          refine km_get (ci := 8) (C := RX8) (T := TX8) (N := 23) (t := 30) (i := 0) hx hb hts fi_X8_readsGuard_X8 hown hK hw (by decide) (by decide) rfl rfl 14 (by decide) (hts (.fieldLink RX8 28 "WrongWordModel" "draft" "[I") ow_X8_readsGuard_28) rfl dX8_readsGuard_115 ?_
          refine lv_iconst (v := 4) hx hb dX8_readsGuard_118 (by decide) ?_
          refine km_iald (t := 37) (i := 0) hx hb hK hw (by decide) (by decide) rfl (by unfold vp_in; decide) dX8_readsGuard_119 ?_
          refine lv_ishl hx hb dX8_readsGuard_120 ?_
          refine lv_ior hx hb dX8_readsGuard_121 ?_
          refine km_iast (t := 37) (i := 0) (n := 65) hx hb hK hw (by decide) (by decide) (fun _ => rfl) (by unfold vp_in; decide) dX8_readsGuard_122 (fun H locs hw => ?_)
          obtain ⟨v37, ev37⟩ : ∃ z, z = up3 v36 37 0 (Int32.toNatClampNeg 6) ((v36 37 0 (Int32.toNatClampNeg 6)) ||| ((1 : Int32) <<< ((v36 37 0 (Int32.toNatClampNeg 4)) &&& 31))) := ⟨_, rfl⟩
          rw [← ev37] at hw
          have hF := hF.trans (kb_some (congrArg some ev37.symm) _)
          refine lv_aload_n hx hb dX8_readsGuard_123 rfl (lv_at hl 3 rfl) ?_
          refine km_get (ci := 8) (C := RX8) (T := TX8) (N := 23) (t := 30) (i := 0) hx hb hts fi_X8_readsGuard_X8 hown hK hw (by decide) (by decide) rfl rfl 14 (by decide) (hts (.fieldLink RX8 28 "WrongWordModel" "draft" "[I") ow_X8_readsGuard_28) rfl dX8_readsGuard_124 ?_
          refine lv_iconst (v := 4) hx hb dX8_readsGuard_127 (by decide) ?_
          refine lv_dup2_11 hx hb dX8_readsGuard_128 rfl rfl ?_
          refine km_iald (t := 37) (i := 0) hx hb hK hw (by decide) (by decide) rfl (by unfold vp_in; decide) dX8_readsGuard_129 ?_
          refine lv_iconst (v := 1) hx hb dX8_readsGuard_130 (by decide) ?_
          refine lv_iadd hx hb dX8_readsGuard_131 ?_
          refine km_iast (t := 37) (i := 0) (n := 65) hx hb hK hw (by decide) (by decide) (fun _ => rfl) (by unfold vp_in; decide) dX8_readsGuard_132 (fun H locs hw => ?_)
          obtain ⟨v38, ev38⟩ : ∃ z, z = up3 v37 37 0 (Int32.toNatClampNeg 4) ((v37 37 0 (Int32.toNatClampNeg 4)) + 1) := ⟨_, rfl⟩
          rw [← ev38] at hw
          have hF := hF.trans (kb_some (congrArg some ev38.symm) _)
          exact hret _ _ _ _ _ hw dX8_readsGuard_133 hF
    · skip
      have hF := hF.trans (if_neg c8)
      refine lv_aload_n hx hb dX8_readsGuard_42 rfl (lv_at hl 1 rfl) ?_
      refine km_get (ci := 8) (C := RX8) (T := TX8) (N := 23) (t := 30) (i := 0) hx hb hts fi_X8_readsGuard_X8 hown hK hw (by decide) (by decide) rfl rfl 14 (by decide) (hts (.fieldLink RX8 28 "WrongWordModel" "draft" "[I") ow_X8_readsGuard_28) rfl dX8_readsGuard_43 ?_
      refine lv_iconst (v := 4) hx hb dX8_readsGuard_46 (by decide) ?_
      refine km_iald (t := 37) (i := 0) hx hb hK hw (by decide) (by decide) rfl (by unfold vp_in; decide) dX8_readsGuard_47 ?_
      refine lv_goto (tgt := 52) hx hb dX8_readsGuard_48 (by decide) ?_
      refine lv_imul hx hb dX8_readsGuard_52 ?_
      refine lv_iadd hx hb dX8_readsGuard_53 ?_
      refine lv_topi (fun x39 ex39 => ?_)
      have hF := hF.trans (kb_some (congrArg some ex39.symm) _)
      refine lv_istore_n (lv' := [(2, .int x39), (1, .int r2), (0, .ref (Z.1 30 0))]) hx hb dX8_readsGuard_54 rfl hl (by decide) rfl (fun ls hl => ?_)
      refine lv_aload_n hx hb dX8_readsGuard_55 rfl (lv_at hl 2 rfl) ?_
      refine lv_iconst (v := 0) hx hb dX8_readsGuard_56 (by decide) ?_
      refine lv_bipush (v := 9) hx hb dX8_readsGuard_57 (by decide) ?_
      have hs40 : g_X8_figure v7 0 9 ≠ none := fun q => hs (hF.trans (kb2_n q _))
      refine km_cI (As := [.int 0, .int 9]) (rest := []) (n := 2) (q := (RX8, TX8, 23)) (ci := 8) (t := 30) (i := 0) ⟨hx, hb, hml, hown, hts⟩ (d_X8_figure l E Z v7 0 9 hs40) gX8_readsGuard_X8_figure rfl hV_X8_figure ⟨Nat.le_of_ble_eq_true rfl, Nat.le_of_ble_eq_true rfl⟩ hK hw (by decide) (by decide) rfl rfl rfl hl.1 rfl (Nat.le_of_ble_eq_true rfl) dX8_readsGuard_59 rfl rfl (fun r41 v42 H locs hp hw => ?_)
      have hF := hF.trans (kb2_some hp _)
      refine lv_istore_n (lv' := [(3, .int r41), (2, .int x39), (1, .int r2), (0, .ref (Z.1 30 0))]) hx hb dX8_readsGuard_62 rfl hl (by decide) rfl (fun ls hl => ?_)
      refine lv_aload_n hx hb dX8_readsGuard_63 rfl (lv_at hl 3 rfl) ?_
      refine lv_aload_n hx hb dX8_readsGuard_64 rfl (lv_at hl 3 rfl) ?_
      refine km_get (ci := 8) (C := RX8) (T := TX8) (N := 23) (t := 30) (i := 0) hx hb hts fi_X8_readsGuard_X8 hown hK hw (by decide) (by decide) rfl rfl 11 (by decide) (hts (.fieldLink RX8 98 "WrongWordModel" "token" "I") ow_X8_readsGuard_98) rfl dX8_readsGuard_65 ?_
      refine lv_iconst (v := 4) hx hb dX8_readsGuard_68 (by decide) ?_
      refine lv_icmp_ne (tgt := 76) hx hb dX8_readsGuard_69 (by decide) (fun c43 => ?_) (fun c43 => ?_)
      · skip
        have hF := hF.trans (if_neg c43)
        refine lv_iconst (v := 0) hx hb dX8_readsGuard_76 (by decide) ?_
        refine lv_iconst (v := 1) hx hb dX8_readsGuard_77 (by decide) ?_
        have hs44 : g_X8_takes v42 0 1 ≠ none := fun q => hs (hF.trans (kb2_n q _))
        refine km_cI (As := [.int 0, .int 1]) (rest := []) (n := 2) (q := (RX8, TX8, 23)) (ci := 8) (t := 30) (i := 0) ⟨hx, hb, hml, hown, hts⟩ (d_X8_takes l E Z v42 0 1 hs44) gX8_readsGuard_X8_takes rfl hV_X8_takes ⟨Nat.le_of_ble_eq_true rfl, Nat.le_of_ble_eq_true rfl⟩ hK hw (by decide) (by decide) rfl rfl rfl hl.1 rfl (Nat.le_of_ble_eq_true rfl) dX8_readsGuard_78 rfl rfl (fun r45 v46 H locs hp hw => ?_)
        have hF := hF.trans (kb2_some hp _)
        refine lv_pop hx hb dX8_readsGuard_81 rfl ?_
        refine lv_aload_n hx hb dX8_readsGuard_82 rfl (lv_at hl 3 rfl) ?_
        have hs47 : g_X8_isWell v46 ≠ none := fun q => hs (hF.trans (kb_n q _))
        refine km_cI (As := []) (rest := []) (n := 0) (q := (RX8, TX8, 23)) (ci := 8) (t := 30) (i := 0) ⟨hx, hb, hml, hown, hts⟩ (d_X8_isWell l E Z v46  hs47) gX8_readsGuard_X8_isWell rfl hV_X8_isWell ⟨Nat.le_of_ble_eq_true rfl, Nat.le_of_ble_eq_true rfl⟩ hK hw (by decide) (by decide) rfl rfl rfl hl.1 rfl (Nat.le_of_ble_eq_true rfl) dX8_readsGuard_83 rfl rfl (fun r48 v49 H locs hp hw => ?_)
        obtain ⟨hp, hzr48⟩ := hp
        obtain ⟨hp, rfl⟩ := hp
        have hF := hF.trans (kb_some hp _)
        refine lv_if_eq (tgt := 133) hx hb dX8_readsGuard_86 (by decide) (fun c50 => ?_) (fun c50 => ?_)
        · skip
          have hF := hF.trans (if_pos c50)
          exact hret _ _ _ _ _ hw dX8_readsGuard_133 hF
        · skip
          have hF := hF.trans (if_neg c50)
          refine lv_aload_n hx hb dX8_readsGuard_89 rfl (lv_at hl 3 rfl) ?_
          refine km_get (ci := 8) (C := RX8) (T := TX8) (N := 23) (t := 30) (i := 0) hx hb hts fi_X8_readsGuard_X8 hown hK hw (by decide) (by decide) rfl rfl 14 (by decide) (hts (.fieldLink RX8 28 "WrongWordModel" "draft" "[I") ow_X8_readsGuard_28) rfl dX8_readsGuard_90 ?_
          refine lv_iload_n hx hb dX8_readsGuard_93 rfl (lv_at hl 1 rfl) ?_
          refine lv_iload_n hx hb dX8_readsGuard_94 rfl (lv_at hl 2 rfl) ?_
          have hb51 : ¬ (x39 < 0 ∨ 65 ≤ Int32.toNatClampNeg x39) := fun q => hs (hF.trans (if_pos q))
          have hF := hF.trans (if_neg hb51)
          refine km_iast (t := 37) (i := 0) (n := 65) hx hb hK hw (by decide) (by decide) (fun _ => rfl) hb51 dX8_readsGuard_95 (fun H locs hw => ?_)
          obtain ⟨v52, ev52⟩ : ∃ z, z = up3 v46 37 0 (Int32.toNatClampNeg x39) r2 := ⟨_, rfl⟩
          rw [← ev52] at hw
          have hF := hF.trans (kb_some (congrArg some ev52.symm) _)
          refine lv_aload_n hx hb dX8_readsGuard_96 rfl (lv_at hl 3 rfl) ?_
          refine km_get (ci := 8) (C := RX8) (T := TX8) (N := 23) (t := 30) (i := 0) hx hb hts fi_X8_readsGuard_X8 hown hK hw (by decide) (by decide) rfl rfl 14 (by decide) (hts (.fieldLink RX8 28 "WrongWordModel" "draft" "[I") ow_X8_readsGuard_28) rfl dX8_readsGuard_97 ?_
          refine lv_iload_n hx hb dX8_readsGuard_100 rfl (lv_at hl 1 rfl) ?_
          refine lv_iconst (v := 1) hx hb dX8_readsGuard_101 (by decide) ?_
          refine lv_iadd hx hb dX8_readsGuard_102 ?_
          refine lv_iload_n hx hb dX8_readsGuard_103 rfl (lv_at hl 0 rfl) ?_
          have hb53 : ¬ (x39 + 1 < 0 ∨ 65 ≤ Int32.toNatClampNeg (x39 + 1)) := fun q => hs (hF.trans (if_pos q))
          have hF := hF.trans (if_neg hb53)
          refine km_iast (t := 37) (i := 0) (n := 65) hx hb hK hw (by decide) (by decide) (fun _ => rfl) hb53 dX8_readsGuard_104 (fun H locs hw => ?_)
          obtain ⟨v54, ev54⟩ : ∃ z, z = up3 v52 37 0 (Int32.toNatClampNeg (x39 + 1)) r41 := ⟨_, rfl⟩
          rw [← ev54] at hw
          have hF := hF.trans (kb_some (congrArg some ev54.symm) _)
          refine lv_aload_n hx hb dX8_readsGuard_105 rfl (lv_at hl 3 rfl) ?_
          refine km_get (ci := 8) (C := RX8) (T := TX8) (N := 23) (t := 30) (i := 0) hx hb hts fi_X8_readsGuard_X8 hown hK hw (by decide) (by decide) rfl rfl 14 (by decide) (hts (.fieldLink RX8 28 "WrongWordModel" "draft" "[I") ow_X8_readsGuard_28) rfl dX8_readsGuard_106 ?_
          refine lv_bipush (v := 6) hx hb dX8_readsGuard_109 (by decide) ?_
          refine lv_dup2_11 hx hb dX8_readsGuard_111 rfl rfl ?_
          refine km_iald (t := 37) (i := 0) hx hb hK hw (by decide) (by decide) rfl (by unfold vp_in; decide) dX8_readsGuard_112 ?_
          refine lv_iconst (v := 1) hx hb dX8_readsGuard_113 (by decide) ?_
          refine lv_aload_n hx hb dX8_readsGuard_114 rfl (lv_at hl 3 rfl) ?_
          refine km_get (ci := 8) (C := RX8) (T := TX8) (N := 23) (t := 30) (i := 0) hx hb hts fi_X8_readsGuard_X8 hown hK hw (by decide) (by decide) rfl rfl 14 (by decide) (hts (.fieldLink RX8 28 "WrongWordModel" "draft" "[I") ow_X8_readsGuard_28) rfl dX8_readsGuard_115 ?_
          refine lv_iconst (v := 4) hx hb dX8_readsGuard_118 (by decide) ?_
          refine km_iald (t := 37) (i := 0) hx hb hK hw (by decide) (by decide) rfl (by unfold vp_in; decide) dX8_readsGuard_119 ?_
          refine lv_ishl hx hb dX8_readsGuard_120 ?_
          refine lv_ior hx hb dX8_readsGuard_121 ?_
          refine km_iast (t := 37) (i := 0) (n := 65) hx hb hK hw (by decide) (by decide) (fun _ => rfl) (by unfold vp_in; decide) dX8_readsGuard_122 (fun H locs hw => ?_)
          obtain ⟨v55, ev55⟩ : ∃ z, z = up3 v54 37 0 (Int32.toNatClampNeg 6) ((v54 37 0 (Int32.toNatClampNeg 6)) ||| ((1 : Int32) <<< ((v54 37 0 (Int32.toNatClampNeg 4)) &&& 31))) := ⟨_, rfl⟩
          rw [← ev55] at hw
          have hF := hF.trans (kb_some (congrArg some ev55.symm) _)
          refine lv_aload_n hx hb dX8_readsGuard_123 rfl (lv_at hl 3 rfl) ?_
          refine km_get (ci := 8) (C := RX8) (T := TX8) (N := 23) (t := 30) (i := 0) hx hb hts fi_X8_readsGuard_X8 hown hK hw (by decide) (by decide) rfl rfl 14 (by decide) (hts (.fieldLink RX8 28 "WrongWordModel" "draft" "[I") ow_X8_readsGuard_28) rfl dX8_readsGuard_124 ?_
          refine lv_iconst (v := 4) hx hb dX8_readsGuard_127 (by decide) ?_
          refine lv_dup2_11 hx hb dX8_readsGuard_128 rfl rfl ?_
          refine km_iald (t := 37) (i := 0) hx hb hK hw (by decide) (by decide) rfl (by unfold vp_in; decide) dX8_readsGuard_129 ?_
          refine lv_iconst (v := 1) hx hb dX8_readsGuard_130 (by decide) ?_
          refine lv_iadd hx hb dX8_readsGuard_131 ?_
          refine km_iast (t := 37) (i := 0) (n := 65) hx hb hK hw (by decide) (by decide) (fun _ => rfl) (by unfold vp_in; decide) dX8_readsGuard_132 (fun H locs hw => ?_)
          obtain ⟨v56, ev56⟩ : ∃ z, z = up3 v55 37 0 (Int32.toNatClampNeg 4) ((v55 37 0 (Int32.toNatClampNeg 4)) + 1) := ⟨_, rfl⟩
          rw [← ev56] at hw
          have hF := hF.trans (kb_some (congrArg some ev56.symm) _)
          exact hret _ _ _ _ _ hw dX8_readsGuard_133 hF
      · skip
        have hF := hF.trans (if_pos c43)
        refine lv_iconst (v := 1) hx hb dX8_readsGuard_72 (by decide) ?_
        refine lv_goto (tgt := 77) hx hb dX8_readsGuard_73 (by decide) ?_
        refine lv_iconst (v := 1) hx hb dX8_readsGuard_77 (by decide) ?_
        have hs57 : g_X8_takes v42 1 1 ≠ none := fun q => hs (hF.trans (kb2_n q _))
        refine km_cI (As := [.int 1, .int 1]) (rest := []) (n := 2) (q := (RX8, TX8, 23)) (ci := 8) (t := 30) (i := 0) ⟨hx, hb, hml, hown, hts⟩ (d_X8_takes l E Z v42 1 1 hs57) gX8_readsGuard_X8_takes rfl hV_X8_takes ⟨Nat.le_of_ble_eq_true rfl, Nat.le_of_ble_eq_true rfl⟩ hK hw (by decide) (by decide) rfl rfl rfl hl.1 rfl (Nat.le_of_ble_eq_true rfl) dX8_readsGuard_78 rfl rfl (fun r58 v59 H locs hp hw => ?_)
        have hF := hF.trans (kb2_some hp _)
        refine lv_pop hx hb dX8_readsGuard_81 rfl ?_
        refine lv_aload_n hx hb dX8_readsGuard_82 rfl (lv_at hl 3 rfl) ?_
        have hs60 : g_X8_isWell v59 ≠ none := fun q => hs (hF.trans (kb_n q _))
        refine km_cI (As := []) (rest := []) (n := 0) (q := (RX8, TX8, 23)) (ci := 8) (t := 30) (i := 0) ⟨hx, hb, hml, hown, hts⟩ (d_X8_isWell l E Z v59  hs60) gX8_readsGuard_X8_isWell rfl hV_X8_isWell ⟨Nat.le_of_ble_eq_true rfl, Nat.le_of_ble_eq_true rfl⟩ hK hw (by decide) (by decide) rfl rfl rfl hl.1 rfl (Nat.le_of_ble_eq_true rfl) dX8_readsGuard_83 rfl rfl (fun r61 v62 H locs hp hw => ?_)
        obtain ⟨hp, hzr61⟩ := hp
        obtain ⟨hp, rfl⟩ := hp
        have hF := hF.trans (kb_some hp _)
        refine lv_if_eq (tgt := 133) hx hb dX8_readsGuard_86 (by decide) (fun c63 => ?_) (fun c63 => ?_)
        · skip
          have hF := hF.trans (if_pos c63)
          exact hret _ _ _ _ _ hw dX8_readsGuard_133 hF
        · skip
          have hF := hF.trans (if_neg c63)
          refine lv_aload_n hx hb dX8_readsGuard_89 rfl (lv_at hl 3 rfl) ?_
          refine km_get (ci := 8) (C := RX8) (T := TX8) (N := 23) (t := 30) (i := 0) hx hb hts fi_X8_readsGuard_X8 hown hK hw (by decide) (by decide) rfl rfl 14 (by decide) (hts (.fieldLink RX8 28 "WrongWordModel" "draft" "[I") ow_X8_readsGuard_28) rfl dX8_readsGuard_90 ?_
          refine lv_iload_n hx hb dX8_readsGuard_93 rfl (lv_at hl 1 rfl) ?_
          refine lv_iload_n hx hb dX8_readsGuard_94 rfl (lv_at hl 2 rfl) ?_
          have hb64 : ¬ (x39 < 0 ∨ 65 ≤ Int32.toNatClampNeg x39) := fun q => hs (hF.trans (if_pos q))
          have hF := hF.trans (if_neg hb64)
          refine km_iast (t := 37) (i := 0) (n := 65) hx hb hK hw (by decide) (by decide) (fun _ => rfl) hb64 dX8_readsGuard_95 (fun H locs hw => ?_)
          obtain ⟨v65, ev65⟩ : ∃ z, z = up3 v59 37 0 (Int32.toNatClampNeg x39) r2 := ⟨_, rfl⟩
          rw [← ev65] at hw
          have hF := hF.trans (kb_some (congrArg some ev65.symm) _)
          refine lv_aload_n hx hb dX8_readsGuard_96 rfl (lv_at hl 3 rfl) ?_
          refine km_get (ci := 8) (C := RX8) (T := TX8) (N := 23) (t := 30) (i := 0) hx hb hts fi_X8_readsGuard_X8 hown hK hw (by decide) (by decide) rfl rfl 14 (by decide) (hts (.fieldLink RX8 28 "WrongWordModel" "draft" "[I") ow_X8_readsGuard_28) rfl dX8_readsGuard_97 ?_
          refine lv_iload_n hx hb dX8_readsGuard_100 rfl (lv_at hl 1 rfl) ?_
          refine lv_iconst (v := 1) hx hb dX8_readsGuard_101 (by decide) ?_
          refine lv_iadd hx hb dX8_readsGuard_102 ?_
          refine lv_iload_n hx hb dX8_readsGuard_103 rfl (lv_at hl 0 rfl) ?_
          have hb66 : ¬ (x39 + 1 < 0 ∨ 65 ≤ Int32.toNatClampNeg (x39 + 1)) := fun q => hs (hF.trans (if_pos q))
          have hF := hF.trans (if_neg hb66)
          refine km_iast (t := 37) (i := 0) (n := 65) hx hb hK hw (by decide) (by decide) (fun _ => rfl) hb66 dX8_readsGuard_104 (fun H locs hw => ?_)
          obtain ⟨v67, ev67⟩ : ∃ z, z = up3 v65 37 0 (Int32.toNatClampNeg (x39 + 1)) r41 := ⟨_, rfl⟩
          rw [← ev67] at hw
          have hF := hF.trans (kb_some (congrArg some ev67.symm) _)
          refine lv_aload_n hx hb dX8_readsGuard_105 rfl (lv_at hl 3 rfl) ?_
          refine km_get (ci := 8) (C := RX8) (T := TX8) (N := 23) (t := 30) (i := 0) hx hb hts fi_X8_readsGuard_X8 hown hK hw (by decide) (by decide) rfl rfl 14 (by decide) (hts (.fieldLink RX8 28 "WrongWordModel" "draft" "[I") ow_X8_readsGuard_28) rfl dX8_readsGuard_106 ?_
          refine lv_bipush (v := 6) hx hb dX8_readsGuard_109 (by decide) ?_
          refine lv_dup2_11 hx hb dX8_readsGuard_111 rfl rfl ?_
          refine km_iald (t := 37) (i := 0) hx hb hK hw (by decide) (by decide) rfl (by unfold vp_in; decide) dX8_readsGuard_112 ?_
          refine lv_iconst (v := 1) hx hb dX8_readsGuard_113 (by decide) ?_
          refine lv_aload_n hx hb dX8_readsGuard_114 rfl (lv_at hl 3 rfl) ?_
          refine km_get (ci := 8) (C := RX8) (T := TX8) (N := 23) (t := 30) (i := 0) hx hb hts fi_X8_readsGuard_X8 hown hK hw (by decide) (by decide) rfl rfl 14 (by decide) (hts (.fieldLink RX8 28 "WrongWordModel" "draft" "[I") ow_X8_readsGuard_28) rfl dX8_readsGuard_115 ?_
          refine lv_iconst (v := 4) hx hb dX8_readsGuard_118 (by decide) ?_
          refine km_iald (t := 37) (i := 0) hx hb hK hw (by decide) (by decide) rfl (by unfold vp_in; decide) dX8_readsGuard_119 ?_
          refine lv_ishl hx hb dX8_readsGuard_120 ?_
          refine lv_ior hx hb dX8_readsGuard_121 ?_
          refine km_iast (t := 37) (i := 0) (n := 65) hx hb hK hw (by decide) (by decide) (fun _ => rfl) (by unfold vp_in; decide) dX8_readsGuard_122 (fun H locs hw => ?_)
          obtain ⟨v68, ev68⟩ : ∃ z, z = up3 v67 37 0 (Int32.toNatClampNeg 6) ((v67 37 0 (Int32.toNatClampNeg 6)) ||| ((1 : Int32) <<< ((v67 37 0 (Int32.toNatClampNeg 4)) &&& 31))) := ⟨_, rfl⟩
          rw [← ev68] at hw
          have hF := hF.trans (kb_some (congrArg some ev68.symm) _)
          refine lv_aload_n hx hb dX8_readsGuard_123 rfl (lv_at hl 3 rfl) ?_
          refine km_get (ci := 8) (C := RX8) (T := TX8) (N := 23) (t := 30) (i := 0) hx hb hts fi_X8_readsGuard_X8 hown hK hw (by decide) (by decide) rfl rfl 14 (by decide) (hts (.fieldLink RX8 28 "WrongWordModel" "draft" "[I") ow_X8_readsGuard_28) rfl dX8_readsGuard_124 ?_
          refine lv_iconst (v := 4) hx hb dX8_readsGuard_127 (by decide) ?_
          refine lv_dup2_11 hx hb dX8_readsGuard_128 rfl rfl ?_
          refine km_iald (t := 37) (i := 0) hx hb hK hw (by decide) (by decide) rfl (by unfold vp_in; decide) dX8_readsGuard_129 ?_
          refine lv_iconst (v := 1) hx hb dX8_readsGuard_130 (by decide) ?_
          refine lv_iadd hx hb dX8_readsGuard_131 ?_
          refine km_iast (t := 37) (i := 0) (n := 65) hx hb hK hw (by decide) (by decide) (fun _ => rfl) (by unfold vp_in; decide) dX8_readsGuard_132 (fun H locs hw => ?_)
          obtain ⟨v69, ev69⟩ : ∃ z, z = up3 v68 37 0 (Int32.toNatClampNeg 4) ((v68 37 0 (Int32.toNatClampNeg 4)) + 1) := ⟨_, rfl⟩
          rw [← ev69] at hw
          have hF := hF.trans (kb_some (congrArg some ev69.symm) _)
          exact hret _ _ _ _ _ hw dX8_readsGuard_133 hF
  · skip
    have hF := hF.trans (if_neg c4)
    refine lv_iconst (v := 1) hx hb dX8_readsGuard_19 (by decide) ?_
    refine lv_goto (tgt := 24) hx hb dX8_readsGuard_20 (by decide) ?_
    refine lv_iconst (v := 3) hx hb dX8_readsGuard_24 (by decide) ?_
    have hs70 : g_X8_takes v 1 3 ≠ none := fun q => hs (hF.trans (kb2_n q _))
    refine km_cI (As := [.int 1, .int 3]) (rest := []) (n := 2) (q := (RX8, TX8, 23)) (ci := 8) (t := 30) (i := 0) ⟨hx, hb, hml, hown, hts⟩ (d_X8_takes l E Z v 1 3 hs70) gX8_readsGuard_X8_takes rfl hV_X8_takes ⟨Nat.le_of_ble_eq_true rfl, Nat.le_of_ble_eq_true rfl⟩ hK hw (by decide) (by decide) rfl rfl rfl hl.1 rfl (Nat.le_of_ble_eq_true rfl) dX8_readsGuard_25 rfl rfl (fun r71 v72 H locs hp hw => ?_)
    have hF := hF.trans (kb2_some hp _)
    refine lv_pop hx hb dX8_readsGuard_28 rfl ?_
    refine lv_bipush (v := 26) hx hb dX8_readsGuard_29 (by decide) ?_
    refine lv_iconst (v := 3) hx hb dX8_readsGuard_31 (by decide) ?_
    refine lv_aload_n hx hb dX8_readsGuard_32 rfl (lv_at hl 1 rfl) ?_
    refine km_get (ci := 8) (C := RX8) (T := TX8) (N := 23) (t := 30) (i := 0) hx hb hts fi_X8_readsGuard_X8 hown hK hw (by decide) (by decide) rfl rfl 14 (by decide) (hts (.fieldLink RX8 28 "WrongWordModel" "draft" "[I") ow_X8_readsGuard_28) rfl dX8_readsGuard_33 ?_
    refine lv_iconst (v := 4) hx hb dX8_readsGuard_36 (by decide) ?_
    refine km_iald (t := 37) (i := 0) hx hb hK hw (by decide) (by decide) rfl (by unfold vp_in; decide) dX8_readsGuard_37 ?_
    refine lv_iconst (v := 4) hx hb dX8_readsGuard_38 (by decide) ?_
    refine lv_icmp_ge (tgt := 51) hx hb dX8_readsGuard_39 (by decide) (fun c73 => ?_) (fun c73 => ?_)
    · skip
      have hF := hF.trans (if_pos c73)
      refine lv_iconst (v := 0) hx hb dX8_readsGuard_51 (by decide) ?_
      refine lv_imul hx hb dX8_readsGuard_52 ?_
      refine lv_iadd hx hb dX8_readsGuard_53 ?_
      refine lv_istore_n (lv' := [(2, .int ((26 : Int32) + ((3 : Int32) * 0))), (1, .int r2), (0, .ref (Z.1 30 0))]) hx hb dX8_readsGuard_54 rfl hl (by decide) rfl (fun ls hl => ?_)
      refine lv_aload_n hx hb dX8_readsGuard_55 rfl (lv_at hl 2 rfl) ?_
      refine lv_iconst (v := 0) hx hb dX8_readsGuard_56 (by decide) ?_
      refine lv_bipush (v := 9) hx hb dX8_readsGuard_57 (by decide) ?_
      have hs74 : g_X8_figure v72 0 9 ≠ none := fun q => hs (hF.trans (kb2_n q _))
      refine km_cI (As := [.int 0, .int 9]) (rest := []) (n := 2) (q := (RX8, TX8, 23)) (ci := 8) (t := 30) (i := 0) ⟨hx, hb, hml, hown, hts⟩ (d_X8_figure l E Z v72 0 9 hs74) gX8_readsGuard_X8_figure rfl hV_X8_figure ⟨Nat.le_of_ble_eq_true rfl, Nat.le_of_ble_eq_true rfl⟩ hK hw (by decide) (by decide) rfl rfl rfl hl.1 rfl (Nat.le_of_ble_eq_true rfl) dX8_readsGuard_59 rfl rfl (fun r75 v76 H locs hp hw => ?_)
      have hF := hF.trans (kb2_some hp _)
      refine lv_istore_n (lv' := [(3, .int r75), (2, .int ((26 : Int32) + ((3 : Int32) * 0))), (1, .int r2), (0, .ref (Z.1 30 0))]) hx hb dX8_readsGuard_62 rfl hl (by decide) rfl (fun ls hl => ?_)
      refine lv_aload_n hx hb dX8_readsGuard_63 rfl (lv_at hl 3 rfl) ?_
      refine lv_aload_n hx hb dX8_readsGuard_64 rfl (lv_at hl 3 rfl) ?_
      refine km_get (ci := 8) (C := RX8) (T := TX8) (N := 23) (t := 30) (i := 0) hx hb hts fi_X8_readsGuard_X8 hown hK hw (by decide) (by decide) rfl rfl 11 (by decide) (hts (.fieldLink RX8 98 "WrongWordModel" "token" "I") ow_X8_readsGuard_98) rfl dX8_readsGuard_65 ?_
      refine lv_iconst (v := 4) hx hb dX8_readsGuard_68 (by decide) ?_
      refine lv_icmp_ne (tgt := 76) hx hb dX8_readsGuard_69 (by decide) (fun c77 => ?_) (fun c77 => ?_)
      · skip
        have hF := hF.trans (if_neg c77)
        refine lv_iconst (v := 0) hx hb dX8_readsGuard_76 (by decide) ?_
        refine lv_iconst (v := 1) hx hb dX8_readsGuard_77 (by decide) ?_
        have hs78 : g_X8_takes v76 0 1 ≠ none := fun q => hs (hF.trans (kb2_n q _))
        refine km_cI (As := [.int 0, .int 1]) (rest := []) (n := 2) (q := (RX8, TX8, 23)) (ci := 8) (t := 30) (i := 0) ⟨hx, hb, hml, hown, hts⟩ (d_X8_takes l E Z v76 0 1 hs78) gX8_readsGuard_X8_takes rfl hV_X8_takes ⟨Nat.le_of_ble_eq_true rfl, Nat.le_of_ble_eq_true rfl⟩ hK hw (by decide) (by decide) rfl rfl rfl hl.1 rfl (Nat.le_of_ble_eq_true rfl) dX8_readsGuard_78 rfl rfl (fun r79 v80 H locs hp hw => ?_)
        have hF := hF.trans (kb2_some hp _)
        refine lv_pop hx hb dX8_readsGuard_81 rfl ?_
        refine lv_aload_n hx hb dX8_readsGuard_82 rfl (lv_at hl 3 rfl) ?_
        have hs81 : g_X8_isWell v80 ≠ none := fun q => hs (hF.trans (kb_n q _))
        refine km_cI (As := []) (rest := []) (n := 0) (q := (RX8, TX8, 23)) (ci := 8) (t := 30) (i := 0) ⟨hx, hb, hml, hown, hts⟩ (d_X8_isWell l E Z v80  hs81) gX8_readsGuard_X8_isWell rfl hV_X8_isWell ⟨Nat.le_of_ble_eq_true rfl, Nat.le_of_ble_eq_true rfl⟩ hK hw (by decide) (by decide) rfl rfl rfl hl.1 rfl (Nat.le_of_ble_eq_true rfl) dX8_readsGuard_83 rfl rfl (fun r82 v83 H locs hp hw => ?_)
        obtain ⟨hp, hzr82⟩ := hp
        obtain ⟨hp, rfl⟩ := hp
        have hF := hF.trans (kb_some hp _)
        refine lv_if_eq (tgt := 133) hx hb dX8_readsGuard_86 (by decide) (fun c84 => ?_) (fun c84 => ?_)
        · skip
          have hF := hF.trans (if_pos c84)
          exact hret _ _ _ _ _ hw dX8_readsGuard_133 hF
        · skip
          have hF := hF.trans (if_neg c84)
          refine lv_aload_n hx hb dX8_readsGuard_89 rfl (lv_at hl 3 rfl) ?_
          refine km_get (ci := 8) (C := RX8) (T := TX8) (N := 23) (t := 30) (i := 0) hx hb hts fi_X8_readsGuard_X8 hown hK hw (by decide) (by decide) rfl rfl 14 (by decide) (hts (.fieldLink RX8 28 "WrongWordModel" "draft" "[I") ow_X8_readsGuard_28) rfl dX8_readsGuard_90 ?_
          refine lv_iload_n hx hb dX8_readsGuard_93 rfl (lv_at hl 1 rfl) ?_
          refine lv_iload_n hx hb dX8_readsGuard_94 rfl (lv_at hl 2 rfl) ?_
          have hb85 : ¬ ((26 : Int32) + ((3 : Int32) * 0) < 0 ∨ 65 ≤ Int32.toNatClampNeg ((26 : Int32) + ((3 : Int32) * 0))) := fun q => hs (hF.trans (if_pos q))
          have hF := hF.trans (if_neg hb85)
          refine km_iast (t := 37) (i := 0) (n := 65) hx hb hK hw (by decide) (by decide) (fun _ => rfl) hb85 dX8_readsGuard_95 (fun H locs hw => ?_)
          obtain ⟨v86, ev86⟩ : ∃ z, z = up3 v80 37 0 (Int32.toNatClampNeg ((26 : Int32) + ((3 : Int32) * 0))) r2 := ⟨_, rfl⟩
          rw [← ev86] at hw
          have hF := hF.trans (kb_some (congrArg some ev86.symm) _)
          refine lv_aload_n hx hb dX8_readsGuard_96 rfl (lv_at hl 3 rfl) ?_
          refine km_get (ci := 8) (C := RX8) (T := TX8) (N := 23) (t := 30) (i := 0) hx hb hts fi_X8_readsGuard_X8 hown hK hw (by decide) (by decide) rfl rfl 14 (by decide) (hts (.fieldLink RX8 28 "WrongWordModel" "draft" "[I") ow_X8_readsGuard_28) rfl dX8_readsGuard_97 ?_
          refine lv_iload_n hx hb dX8_readsGuard_100 rfl (lv_at hl 1 rfl) ?_
          refine lv_iconst (v := 1) hx hb dX8_readsGuard_101 (by decide) ?_
          refine lv_iadd hx hb dX8_readsGuard_102 ?_
          refine lv_iload_n hx hb dX8_readsGuard_103 rfl (lv_at hl 0 rfl) ?_
          have hb87 : ¬ (((26 : Int32) + ((3 : Int32) * 0)) + 1 < 0 ∨ 65 ≤ Int32.toNatClampNeg (((26 : Int32) + ((3 : Int32) * 0)) + 1)) := fun q => hs (hF.trans (if_pos q))
          have hF := hF.trans (if_neg hb87)
          refine km_iast (t := 37) (i := 0) (n := 65) hx hb hK hw (by decide) (by decide) (fun _ => rfl) hb87 dX8_readsGuard_104 (fun H locs hw => ?_)
          obtain ⟨v88, ev88⟩ : ∃ z, z = up3 v86 37 0 (Int32.toNatClampNeg (((26 : Int32) + ((3 : Int32) * 0)) + 1)) r75 := ⟨_, rfl⟩
          rw [← ev88] at hw
          have hF := hF.trans (kb_some (congrArg some ev88.symm) _)
          refine lv_aload_n hx hb dX8_readsGuard_105 rfl (lv_at hl 3 rfl) ?_
          refine km_get (ci := 8) (C := RX8) (T := TX8) (N := 23) (t := 30) (i := 0) hx hb hts fi_X8_readsGuard_X8 hown hK hw (by decide) (by decide) rfl rfl 14 (by decide) (hts (.fieldLink RX8 28 "WrongWordModel" "draft" "[I") ow_X8_readsGuard_28) rfl dX8_readsGuard_106 ?_
          refine lv_bipush (v := 6) hx hb dX8_readsGuard_109 (by decide) ?_
          refine lv_dup2_11 hx hb dX8_readsGuard_111 rfl rfl ?_
          refine km_iald (t := 37) (i := 0) hx hb hK hw (by decide) (by decide) rfl (by unfold vp_in; decide) dX8_readsGuard_112 ?_
          refine lv_iconst (v := 1) hx hb dX8_readsGuard_113 (by decide) ?_
          refine lv_aload_n hx hb dX8_readsGuard_114 rfl (lv_at hl 3 rfl) ?_
          refine km_get (ci := 8) (C := RX8) (T := TX8) (N := 23) (t := 30) (i := 0) hx hb hts fi_X8_readsGuard_X8 hown hK hw (by decide) (by decide) rfl rfl 14 (by decide) (hts (.fieldLink RX8 28 "WrongWordModel" "draft" "[I") ow_X8_readsGuard_28) rfl dX8_readsGuard_115 ?_
          refine lv_iconst (v := 4) hx hb dX8_readsGuard_118 (by decide) ?_
          refine km_iald (t := 37) (i := 0) hx hb hK hw (by decide) (by decide) rfl (by unfold vp_in; decide) dX8_readsGuard_119 ?_
          refine lv_ishl hx hb dX8_readsGuard_120 ?_
          refine lv_ior hx hb dX8_readsGuard_121 ?_
          refine km_iast (t := 37) (i := 0) (n := 65) hx hb hK hw (by decide) (by decide) (fun _ => rfl) (by unfold vp_in; decide) dX8_readsGuard_122 (fun H locs hw => ?_)
          obtain ⟨v89, ev89⟩ : ∃ z, z = up3 v88 37 0 (Int32.toNatClampNeg 6) ((v88 37 0 (Int32.toNatClampNeg 6)) ||| ((1 : Int32) <<< ((v88 37 0 (Int32.toNatClampNeg 4)) &&& 31))) := ⟨_, rfl⟩
          rw [← ev89] at hw
          have hF := hF.trans (kb_some (congrArg some ev89.symm) _)
          refine lv_aload_n hx hb dX8_readsGuard_123 rfl (lv_at hl 3 rfl) ?_
          refine km_get (ci := 8) (C := RX8) (T := TX8) (N := 23) (t := 30) (i := 0) hx hb hts fi_X8_readsGuard_X8 hown hK hw (by decide) (by decide) rfl rfl 14 (by decide) (hts (.fieldLink RX8 28 "WrongWordModel" "draft" "[I") ow_X8_readsGuard_28) rfl dX8_readsGuard_124 ?_
          refine lv_iconst (v := 4) hx hb dX8_readsGuard_127 (by decide) ?_
          refine lv_dup2_11 hx hb dX8_readsGuard_128 rfl rfl ?_
          refine km_iald (t := 37) (i := 0) hx hb hK hw (by decide) (by decide) rfl (by unfold vp_in; decide) dX8_readsGuard_129 ?_
          refine lv_iconst (v := 1) hx hb dX8_readsGuard_130 (by decide) ?_
          refine lv_iadd hx hb dX8_readsGuard_131 ?_
          refine km_iast (t := 37) (i := 0) (n := 65) hx hb hK hw (by decide) (by decide) (fun _ => rfl) (by unfold vp_in; decide) dX8_readsGuard_132 (fun H locs hw => ?_)
          obtain ⟨v90, ev90⟩ : ∃ z, z = up3 v89 37 0 (Int32.toNatClampNeg 4) ((v89 37 0 (Int32.toNatClampNeg 4)) + 1) := ⟨_, rfl⟩
          rw [← ev90] at hw
          have hF := hF.trans (kb_some (congrArg some ev90.symm) _)
          exact hret _ _ _ _ _ hw dX8_readsGuard_133 hF
      · skip
        have hF := hF.trans (if_pos c77)
        refine lv_iconst (v := 1) hx hb dX8_readsGuard_72 (by decide) ?_
        refine lv_goto (tgt := 77) hx hb dX8_readsGuard_73 (by decide) ?_
        refine lv_iconst (v := 1) hx hb dX8_readsGuard_77 (by decide) ?_
        have hs91 : g_X8_takes v76 1 1 ≠ none := fun q => hs (hF.trans (kb2_n q _))
        refine km_cI (As := [.int 1, .int 1]) (rest := []) (n := 2) (q := (RX8, TX8, 23)) (ci := 8) (t := 30) (i := 0) ⟨hx, hb, hml, hown, hts⟩ (d_X8_takes l E Z v76 1 1 hs91) gX8_readsGuard_X8_takes rfl hV_X8_takes ⟨Nat.le_of_ble_eq_true rfl, Nat.le_of_ble_eq_true rfl⟩ hK hw (by decide) (by decide) rfl rfl rfl hl.1 rfl (Nat.le_of_ble_eq_true rfl) dX8_readsGuard_78 rfl rfl (fun r92 v93 H locs hp hw => ?_)
        have hF := hF.trans (kb2_some hp _)
        refine lv_pop hx hb dX8_readsGuard_81 rfl ?_
        refine lv_aload_n hx hb dX8_readsGuard_82 rfl (lv_at hl 3 rfl) ?_
        have hs94 : g_X8_isWell v93 ≠ none := fun q => hs (hF.trans (kb_n q _))
        refine km_cI (As := []) (rest := []) (n := 0) (q := (RX8, TX8, 23)) (ci := 8) (t := 30) (i := 0) ⟨hx, hb, hml, hown, hts⟩ (d_X8_isWell l E Z v93  hs94) gX8_readsGuard_X8_isWell rfl hV_X8_isWell ⟨Nat.le_of_ble_eq_true rfl, Nat.le_of_ble_eq_true rfl⟩ hK hw (by decide) (by decide) rfl rfl rfl hl.1 rfl (Nat.le_of_ble_eq_true rfl) dX8_readsGuard_83 rfl rfl (fun r95 v96 H locs hp hw => ?_)
        obtain ⟨hp, hzr95⟩ := hp
        obtain ⟨hp, rfl⟩ := hp
        have hF := hF.trans (kb_some hp _)
        refine lv_if_eq (tgt := 133) hx hb dX8_readsGuard_86 (by decide) (fun c97 => ?_) (fun c97 => ?_)
        · skip
          have hF := hF.trans (if_pos c97)
          exact hret _ _ _ _ _ hw dX8_readsGuard_133 hF
        · skip
          have hF := hF.trans (if_neg c97)
          refine lv_aload_n hx hb dX8_readsGuard_89 rfl (lv_at hl 3 rfl) ?_
          refine km_get (ci := 8) (C := RX8) (T := TX8) (N := 23) (t := 30) (i := 0) hx hb hts fi_X8_readsGuard_X8 hown hK hw (by decide) (by decide) rfl rfl 14 (by decide) (hts (.fieldLink RX8 28 "WrongWordModel" "draft" "[I") ow_X8_readsGuard_28) rfl dX8_readsGuard_90 ?_
          refine lv_iload_n hx hb dX8_readsGuard_93 rfl (lv_at hl 1 rfl) ?_
          refine lv_iload_n hx hb dX8_readsGuard_94 rfl (lv_at hl 2 rfl) ?_
          have hb98 : ¬ ((26 : Int32) + ((3 : Int32) * 0) < 0 ∨ 65 ≤ Int32.toNatClampNeg ((26 : Int32) + ((3 : Int32) * 0))) := fun q => hs (hF.trans (if_pos q))
          have hF := hF.trans (if_neg hb98)
          refine km_iast (t := 37) (i := 0) (n := 65) hx hb hK hw (by decide) (by decide) (fun _ => rfl) hb98 dX8_readsGuard_95 (fun H locs hw => ?_)
          obtain ⟨v99, ev99⟩ : ∃ z, z = up3 v93 37 0 (Int32.toNatClampNeg ((26 : Int32) + ((3 : Int32) * 0))) r2 := ⟨_, rfl⟩
          rw [← ev99] at hw
          have hF := hF.trans (kb_some (congrArg some ev99.symm) _)
          refine lv_aload_n hx hb dX8_readsGuard_96 rfl (lv_at hl 3 rfl) ?_
          refine km_get (ci := 8) (C := RX8) (T := TX8) (N := 23) (t := 30) (i := 0) hx hb hts fi_X8_readsGuard_X8 hown hK hw (by decide) (by decide) rfl rfl 14 (by decide) (hts (.fieldLink RX8 28 "WrongWordModel" "draft" "[I") ow_X8_readsGuard_28) rfl dX8_readsGuard_97 ?_
          refine lv_iload_n hx hb dX8_readsGuard_100 rfl (lv_at hl 1 rfl) ?_
          refine lv_iconst (v := 1) hx hb dX8_readsGuard_101 (by decide) ?_
          refine lv_iadd hx hb dX8_readsGuard_102 ?_
          refine lv_iload_n hx hb dX8_readsGuard_103 rfl (lv_at hl 0 rfl) ?_
          have hb100 : ¬ (((26 : Int32) + ((3 : Int32) * 0)) + 1 < 0 ∨ 65 ≤ Int32.toNatClampNeg (((26 : Int32) + ((3 : Int32) * 0)) + 1)) := fun q => hs (hF.trans (if_pos q))
          have hF := hF.trans (if_neg hb100)
          refine km_iast (t := 37) (i := 0) (n := 65) hx hb hK hw (by decide) (by decide) (fun _ => rfl) hb100 dX8_readsGuard_104 (fun H locs hw => ?_)
          obtain ⟨v101, ev101⟩ : ∃ z, z = up3 v99 37 0 (Int32.toNatClampNeg (((26 : Int32) + ((3 : Int32) * 0)) + 1)) r75 := ⟨_, rfl⟩
          rw [← ev101] at hw
          have hF := hF.trans (kb_some (congrArg some ev101.symm) _)
          refine lv_aload_n hx hb dX8_readsGuard_105 rfl (lv_at hl 3 rfl) ?_
          refine km_get (ci := 8) (C := RX8) (T := TX8) (N := 23) (t := 30) (i := 0) hx hb hts fi_X8_readsGuard_X8 hown hK hw (by decide) (by decide) rfl rfl 14 (by decide) (hts (.fieldLink RX8 28 "WrongWordModel" "draft" "[I") ow_X8_readsGuard_28) rfl dX8_readsGuard_106 ?_
          refine lv_bipush (v := 6) hx hb dX8_readsGuard_109 (by decide) ?_
          refine lv_dup2_11 hx hb dX8_readsGuard_111 rfl rfl ?_
          refine km_iald (t := 37) (i := 0) hx hb hK hw (by decide) (by decide) rfl (by unfold vp_in; decide) dX8_readsGuard_112 ?_
          refine lv_iconst (v := 1) hx hb dX8_readsGuard_113 (by decide) ?_
          refine lv_aload_n hx hb dX8_readsGuard_114 rfl (lv_at hl 3 rfl) ?_
          refine km_get (ci := 8) (C := RX8) (T := TX8) (N := 23) (t := 30) (i := 0) hx hb hts fi_X8_readsGuard_X8 hown hK hw (by decide) (by decide) rfl rfl 14 (by decide) (hts (.fieldLink RX8 28 "WrongWordModel" "draft" "[I") ow_X8_readsGuard_28) rfl dX8_readsGuard_115 ?_
          refine lv_iconst (v := 4) hx hb dX8_readsGuard_118 (by decide) ?_
          refine km_iald (t := 37) (i := 0) hx hb hK hw (by decide) (by decide) rfl (by unfold vp_in; decide) dX8_readsGuard_119 ?_
          refine lv_ishl hx hb dX8_readsGuard_120 ?_
          refine lv_ior hx hb dX8_readsGuard_121 ?_
          refine km_iast (t := 37) (i := 0) (n := 65) hx hb hK hw (by decide) (by decide) (fun _ => rfl) (by unfold vp_in; decide) dX8_readsGuard_122 (fun H locs hw => ?_)
          obtain ⟨v102, ev102⟩ : ∃ z, z = up3 v101 37 0 (Int32.toNatClampNeg 6) ((v101 37 0 (Int32.toNatClampNeg 6)) ||| ((1 : Int32) <<< ((v101 37 0 (Int32.toNatClampNeg 4)) &&& 31))) := ⟨_, rfl⟩
          rw [← ev102] at hw
          have hF := hF.trans (kb_some (congrArg some ev102.symm) _)
          refine lv_aload_n hx hb dX8_readsGuard_123 rfl (lv_at hl 3 rfl) ?_
          refine km_get (ci := 8) (C := RX8) (T := TX8) (N := 23) (t := 30) (i := 0) hx hb hts fi_X8_readsGuard_X8 hown hK hw (by decide) (by decide) rfl rfl 14 (by decide) (hts (.fieldLink RX8 28 "WrongWordModel" "draft" "[I") ow_X8_readsGuard_28) rfl dX8_readsGuard_124 ?_
          refine lv_iconst (v := 4) hx hb dX8_readsGuard_127 (by decide) ?_
          refine lv_dup2_11 hx hb dX8_readsGuard_128 rfl rfl ?_
          refine km_iald (t := 37) (i := 0) hx hb hK hw (by decide) (by decide) rfl (by unfold vp_in; decide) dX8_readsGuard_129 ?_
          refine lv_iconst (v := 1) hx hb dX8_readsGuard_130 (by decide) ?_
          refine lv_iadd hx hb dX8_readsGuard_131 ?_
          refine km_iast (t := 37) (i := 0) (n := 65) hx hb hK hw (by decide) (by decide) (fun _ => rfl) (by unfold vp_in; decide) dX8_readsGuard_132 (fun H locs hw => ?_)
          obtain ⟨v103, ev103⟩ : ∃ z, z = up3 v102 37 0 (Int32.toNatClampNeg 4) ((v102 37 0 (Int32.toNatClampNeg 4)) + 1) := ⟨_, rfl⟩
          rw [← ev103] at hw
          have hF := hF.trans (kb_some (congrArg some ev103.symm) _)
          exact hret _ _ _ _ _ hw dX8_readsGuard_133 hF
    · skip
      have hF := hF.trans (if_neg c73)
      refine lv_aload_n hx hb dX8_readsGuard_42 rfl (lv_at hl 1 rfl) ?_
      refine km_get (ci := 8) (C := RX8) (T := TX8) (N := 23) (t := 30) (i := 0) hx hb hts fi_X8_readsGuard_X8 hown hK hw (by decide) (by decide) rfl rfl 14 (by decide) (hts (.fieldLink RX8 28 "WrongWordModel" "draft" "[I") ow_X8_readsGuard_28) rfl dX8_readsGuard_43 ?_
      refine lv_iconst (v := 4) hx hb dX8_readsGuard_46 (by decide) ?_
      refine km_iald (t := 37) (i := 0) hx hb hK hw (by decide) (by decide) rfl (by unfold vp_in; decide) dX8_readsGuard_47 ?_
      refine lv_goto (tgt := 52) hx hb dX8_readsGuard_48 (by decide) ?_
      refine lv_imul hx hb dX8_readsGuard_52 ?_
      refine lv_iadd hx hb dX8_readsGuard_53 ?_
      refine lv_topi (fun x104 ex104 => ?_)
      have hF := hF.trans (kb_some (congrArg some ex104.symm) _)
      refine lv_istore_n (lv' := [(2, .int x104), (1, .int r2), (0, .ref (Z.1 30 0))]) hx hb dX8_readsGuard_54 rfl hl (by decide) rfl (fun ls hl => ?_)
      refine lv_aload_n hx hb dX8_readsGuard_55 rfl (lv_at hl 2 rfl) ?_
      refine lv_iconst (v := 0) hx hb dX8_readsGuard_56 (by decide) ?_
      refine lv_bipush (v := 9) hx hb dX8_readsGuard_57 (by decide) ?_
      have hs105 : g_X8_figure v72 0 9 ≠ none := fun q => hs (hF.trans (kb2_n q _))
      refine km_cI (As := [.int 0, .int 9]) (rest := []) (n := 2) (q := (RX8, TX8, 23)) (ci := 8) (t := 30) (i := 0) ⟨hx, hb, hml, hown, hts⟩ (d_X8_figure l E Z v72 0 9 hs105) gX8_readsGuard_X8_figure rfl hV_X8_figure ⟨Nat.le_of_ble_eq_true rfl, Nat.le_of_ble_eq_true rfl⟩ hK hw (by decide) (by decide) rfl rfl rfl hl.1 rfl (Nat.le_of_ble_eq_true rfl) dX8_readsGuard_59 rfl rfl (fun r106 v107 H locs hp hw => ?_)
      have hF := hF.trans (kb2_some hp _)
      refine lv_istore_n (lv' := [(3, .int r106), (2, .int x104), (1, .int r2), (0, .ref (Z.1 30 0))]) hx hb dX8_readsGuard_62 rfl hl (by decide) rfl (fun ls hl => ?_)
      refine lv_aload_n hx hb dX8_readsGuard_63 rfl (lv_at hl 3 rfl) ?_
      refine lv_aload_n hx hb dX8_readsGuard_64 rfl (lv_at hl 3 rfl) ?_
      refine km_get (ci := 8) (C := RX8) (T := TX8) (N := 23) (t := 30) (i := 0) hx hb hts fi_X8_readsGuard_X8 hown hK hw (by decide) (by decide) rfl rfl 11 (by decide) (hts (.fieldLink RX8 98 "WrongWordModel" "token" "I") ow_X8_readsGuard_98) rfl dX8_readsGuard_65 ?_
      refine lv_iconst (v := 4) hx hb dX8_readsGuard_68 (by decide) ?_
      refine lv_icmp_ne (tgt := 76) hx hb dX8_readsGuard_69 (by decide) (fun c108 => ?_) (fun c108 => ?_)
      · skip
        have hF := hF.trans (if_neg c108)
        refine lv_iconst (v := 0) hx hb dX8_readsGuard_76 (by decide) ?_
        refine lv_iconst (v := 1) hx hb dX8_readsGuard_77 (by decide) ?_
        have hs109 : g_X8_takes v107 0 1 ≠ none := fun q => hs (hF.trans (kb2_n q _))
        refine km_cI (As := [.int 0, .int 1]) (rest := []) (n := 2) (q := (RX8, TX8, 23)) (ci := 8) (t := 30) (i := 0) ⟨hx, hb, hml, hown, hts⟩ (d_X8_takes l E Z v107 0 1 hs109) gX8_readsGuard_X8_takes rfl hV_X8_takes ⟨Nat.le_of_ble_eq_true rfl, Nat.le_of_ble_eq_true rfl⟩ hK hw (by decide) (by decide) rfl rfl rfl hl.1 rfl (Nat.le_of_ble_eq_true rfl) dX8_readsGuard_78 rfl rfl (fun r110 v111 H locs hp hw => ?_)
        have hF := hF.trans (kb2_some hp _)
        refine lv_pop hx hb dX8_readsGuard_81 rfl ?_
        refine lv_aload_n hx hb dX8_readsGuard_82 rfl (lv_at hl 3 rfl) ?_
        have hs112 : g_X8_isWell v111 ≠ none := fun q => hs (hF.trans (kb_n q _))
        refine km_cI (As := []) (rest := []) (n := 0) (q := (RX8, TX8, 23)) (ci := 8) (t := 30) (i := 0) ⟨hx, hb, hml, hown, hts⟩ (d_X8_isWell l E Z v111  hs112) gX8_readsGuard_X8_isWell rfl hV_X8_isWell ⟨Nat.le_of_ble_eq_true rfl, Nat.le_of_ble_eq_true rfl⟩ hK hw (by decide) (by decide) rfl rfl rfl hl.1 rfl (Nat.le_of_ble_eq_true rfl) dX8_readsGuard_83 rfl rfl (fun r113 v114 H locs hp hw => ?_)
        obtain ⟨hp, hzr113⟩ := hp
        obtain ⟨hp, rfl⟩ := hp
        have hF := hF.trans (kb_some hp _)
        refine lv_if_eq (tgt := 133) hx hb dX8_readsGuard_86 (by decide) (fun c115 => ?_) (fun c115 => ?_)
        · skip
          have hF := hF.trans (if_pos c115)
          exact hret _ _ _ _ _ hw dX8_readsGuard_133 hF
        · skip
          have hF := hF.trans (if_neg c115)
          refine lv_aload_n hx hb dX8_readsGuard_89 rfl (lv_at hl 3 rfl) ?_
          refine km_get (ci := 8) (C := RX8) (T := TX8) (N := 23) (t := 30) (i := 0) hx hb hts fi_X8_readsGuard_X8 hown hK hw (by decide) (by decide) rfl rfl 14 (by decide) (hts (.fieldLink RX8 28 "WrongWordModel" "draft" "[I") ow_X8_readsGuard_28) rfl dX8_readsGuard_90 ?_
          refine lv_iload_n hx hb dX8_readsGuard_93 rfl (lv_at hl 1 rfl) ?_
          refine lv_iload_n hx hb dX8_readsGuard_94 rfl (lv_at hl 2 rfl) ?_
          have hb116 : ¬ (x104 < 0 ∨ 65 ≤ Int32.toNatClampNeg x104) := fun q => hs (hF.trans (if_pos q))
          have hF := hF.trans (if_neg hb116)
          refine km_iast (t := 37) (i := 0) (n := 65) hx hb hK hw (by decide) (by decide) (fun _ => rfl) hb116 dX8_readsGuard_95 (fun H locs hw => ?_)
          obtain ⟨v117, ev117⟩ : ∃ z, z = up3 v111 37 0 (Int32.toNatClampNeg x104) r2 := ⟨_, rfl⟩
          rw [← ev117] at hw
          have hF := hF.trans (kb_some (congrArg some ev117.symm) _)
          refine lv_aload_n hx hb dX8_readsGuard_96 rfl (lv_at hl 3 rfl) ?_
          refine km_get (ci := 8) (C := RX8) (T := TX8) (N := 23) (t := 30) (i := 0) hx hb hts fi_X8_readsGuard_X8 hown hK hw (by decide) (by decide) rfl rfl 14 (by decide) (hts (.fieldLink RX8 28 "WrongWordModel" "draft" "[I") ow_X8_readsGuard_28) rfl dX8_readsGuard_97 ?_
          refine lv_iload_n hx hb dX8_readsGuard_100 rfl (lv_at hl 1 rfl) ?_
          refine lv_iconst (v := 1) hx hb dX8_readsGuard_101 (by decide) ?_
          refine lv_iadd hx hb dX8_readsGuard_102 ?_
          refine lv_iload_n hx hb dX8_readsGuard_103 rfl (lv_at hl 0 rfl) ?_
          have hb118 : ¬ (x104 + 1 < 0 ∨ 65 ≤ Int32.toNatClampNeg (x104 + 1)) := fun q => hs (hF.trans (if_pos q))
          have hF := hF.trans (if_neg hb118)
          refine km_iast (t := 37) (i := 0) (n := 65) hx hb hK hw (by decide) (by decide) (fun _ => rfl) hb118 dX8_readsGuard_104 (fun H locs hw => ?_)
          obtain ⟨v119, ev119⟩ : ∃ z, z = up3 v117 37 0 (Int32.toNatClampNeg (x104 + 1)) r106 := ⟨_, rfl⟩
          rw [← ev119] at hw
          have hF := hF.trans (kb_some (congrArg some ev119.symm) _)
          refine lv_aload_n hx hb dX8_readsGuard_105 rfl (lv_at hl 3 rfl) ?_
          refine km_get (ci := 8) (C := RX8) (T := TX8) (N := 23) (t := 30) (i := 0) hx hb hts fi_X8_readsGuard_X8 hown hK hw (by decide) (by decide) rfl rfl 14 (by decide) (hts (.fieldLink RX8 28 "WrongWordModel" "draft" "[I") ow_X8_readsGuard_28) rfl dX8_readsGuard_106 ?_
          refine lv_bipush (v := 6) hx hb dX8_readsGuard_109 (by decide) ?_
          refine lv_dup2_11 hx hb dX8_readsGuard_111 rfl rfl ?_
          refine km_iald (t := 37) (i := 0) hx hb hK hw (by decide) (by decide) rfl (by unfold vp_in; decide) dX8_readsGuard_112 ?_
          refine lv_iconst (v := 1) hx hb dX8_readsGuard_113 (by decide) ?_
          refine lv_aload_n hx hb dX8_readsGuard_114 rfl (lv_at hl 3 rfl) ?_
          refine km_get (ci := 8) (C := RX8) (T := TX8) (N := 23) (t := 30) (i := 0) hx hb hts fi_X8_readsGuard_X8 hown hK hw (by decide) (by decide) rfl rfl 14 (by decide) (hts (.fieldLink RX8 28 "WrongWordModel" "draft" "[I") ow_X8_readsGuard_28) rfl dX8_readsGuard_115 ?_
          refine lv_iconst (v := 4) hx hb dX8_readsGuard_118 (by decide) ?_
          refine km_iald (t := 37) (i := 0) hx hb hK hw (by decide) (by decide) rfl (by unfold vp_in; decide) dX8_readsGuard_119 ?_
          refine lv_ishl hx hb dX8_readsGuard_120 ?_
          refine lv_ior hx hb dX8_readsGuard_121 ?_
          refine km_iast (t := 37) (i := 0) (n := 65) hx hb hK hw (by decide) (by decide) (fun _ => rfl) (by unfold vp_in; decide) dX8_readsGuard_122 (fun H locs hw => ?_)
          obtain ⟨v120, ev120⟩ : ∃ z, z = up3 v119 37 0 (Int32.toNatClampNeg 6) ((v119 37 0 (Int32.toNatClampNeg 6)) ||| ((1 : Int32) <<< ((v119 37 0 (Int32.toNatClampNeg 4)) &&& 31))) := ⟨_, rfl⟩
          rw [← ev120] at hw
          have hF := hF.trans (kb_some (congrArg some ev120.symm) _)
          refine lv_aload_n hx hb dX8_readsGuard_123 rfl (lv_at hl 3 rfl) ?_
          refine km_get (ci := 8) (C := RX8) (T := TX8) (N := 23) (t := 30) (i := 0) hx hb hts fi_X8_readsGuard_X8 hown hK hw (by decide) (by decide) rfl rfl 14 (by decide) (hts (.fieldLink RX8 28 "WrongWordModel" "draft" "[I") ow_X8_readsGuard_28) rfl dX8_readsGuard_124 ?_
          refine lv_iconst (v := 4) hx hb dX8_readsGuard_127 (by decide) ?_
          refine lv_dup2_11 hx hb dX8_readsGuard_128 rfl rfl ?_
          refine km_iald (t := 37) (i := 0) hx hb hK hw (by decide) (by decide) rfl (by unfold vp_in; decide) dX8_readsGuard_129 ?_
          refine lv_iconst (v := 1) hx hb dX8_readsGuard_130 (by decide) ?_
          refine lv_iadd hx hb dX8_readsGuard_131 ?_
          refine km_iast (t := 37) (i := 0) (n := 65) hx hb hK hw (by decide) (by decide) (fun _ => rfl) (by unfold vp_in; decide) dX8_readsGuard_132 (fun H locs hw => ?_)
          obtain ⟨v121, ev121⟩ : ∃ z, z = up3 v120 37 0 (Int32.toNatClampNeg 4) ((v120 37 0 (Int32.toNatClampNeg 4)) + 1) := ⟨_, rfl⟩
          rw [← ev121] at hw
          have hF := hF.trans (kb_some (congrArg some ev121.symm) _)
          exact hret _ _ _ _ _ hw dX8_readsGuard_133 hF
      · skip
        have hF := hF.trans (if_pos c108)
        refine lv_iconst (v := 1) hx hb dX8_readsGuard_72 (by decide) ?_
        refine lv_goto (tgt := 77) hx hb dX8_readsGuard_73 (by decide) ?_
        refine lv_iconst (v := 1) hx hb dX8_readsGuard_77 (by decide) ?_
        have hs122 : g_X8_takes v107 1 1 ≠ none := fun q => hs (hF.trans (kb2_n q _))
        refine km_cI (As := [.int 1, .int 1]) (rest := []) (n := 2) (q := (RX8, TX8, 23)) (ci := 8) (t := 30) (i := 0) ⟨hx, hb, hml, hown, hts⟩ (d_X8_takes l E Z v107 1 1 hs122) gX8_readsGuard_X8_takes rfl hV_X8_takes ⟨Nat.le_of_ble_eq_true rfl, Nat.le_of_ble_eq_true rfl⟩ hK hw (by decide) (by decide) rfl rfl rfl hl.1 rfl (Nat.le_of_ble_eq_true rfl) dX8_readsGuard_78 rfl rfl (fun r123 v124 H locs hp hw => ?_)
        have hF := hF.trans (kb2_some hp _)
        refine lv_pop hx hb dX8_readsGuard_81 rfl ?_
        refine lv_aload_n hx hb dX8_readsGuard_82 rfl (lv_at hl 3 rfl) ?_
        have hs125 : g_X8_isWell v124 ≠ none := fun q => hs (hF.trans (kb_n q _))
        refine km_cI (As := []) (rest := []) (n := 0) (q := (RX8, TX8, 23)) (ci := 8) (t := 30) (i := 0) ⟨hx, hb, hml, hown, hts⟩ (d_X8_isWell l E Z v124  hs125) gX8_readsGuard_X8_isWell rfl hV_X8_isWell ⟨Nat.le_of_ble_eq_true rfl, Nat.le_of_ble_eq_true rfl⟩ hK hw (by decide) (by decide) rfl rfl rfl hl.1 rfl (Nat.le_of_ble_eq_true rfl) dX8_readsGuard_83 rfl rfl (fun r126 v127 H locs hp hw => ?_)
        obtain ⟨hp, hzr126⟩ := hp
        obtain ⟨hp, rfl⟩ := hp
        have hF := hF.trans (kb_some hp _)
        refine lv_if_eq (tgt := 133) hx hb dX8_readsGuard_86 (by decide) (fun c128 => ?_) (fun c128 => ?_)
        · skip
          have hF := hF.trans (if_pos c128)
          exact hret _ _ _ _ _ hw dX8_readsGuard_133 hF
        · skip
          have hF := hF.trans (if_neg c128)
          refine lv_aload_n hx hb dX8_readsGuard_89 rfl (lv_at hl 3 rfl) ?_
          refine km_get (ci := 8) (C := RX8) (T := TX8) (N := 23) (t := 30) (i := 0) hx hb hts fi_X8_readsGuard_X8 hown hK hw (by decide) (by decide) rfl rfl 14 (by decide) (hts (.fieldLink RX8 28 "WrongWordModel" "draft" "[I") ow_X8_readsGuard_28) rfl dX8_readsGuard_90 ?_
          refine lv_iload_n hx hb dX8_readsGuard_93 rfl (lv_at hl 1 rfl) ?_
          refine lv_iload_n hx hb dX8_readsGuard_94 rfl (lv_at hl 2 rfl) ?_
          have hb129 : ¬ (x104 < 0 ∨ 65 ≤ Int32.toNatClampNeg x104) := fun q => hs (hF.trans (if_pos q))
          have hF := hF.trans (if_neg hb129)
          refine km_iast (t := 37) (i := 0) (n := 65) hx hb hK hw (by decide) (by decide) (fun _ => rfl) hb129 dX8_readsGuard_95 (fun H locs hw => ?_)
          obtain ⟨v130, ev130⟩ : ∃ z, z = up3 v124 37 0 (Int32.toNatClampNeg x104) r2 := ⟨_, rfl⟩
          rw [← ev130] at hw
          have hF := hF.trans (kb_some (congrArg some ev130.symm) _)
          refine lv_aload_n hx hb dX8_readsGuard_96 rfl (lv_at hl 3 rfl) ?_
          refine km_get (ci := 8) (C := RX8) (T := TX8) (N := 23) (t := 30) (i := 0) hx hb hts fi_X8_readsGuard_X8 hown hK hw (by decide) (by decide) rfl rfl 14 (by decide) (hts (.fieldLink RX8 28 "WrongWordModel" "draft" "[I") ow_X8_readsGuard_28) rfl dX8_readsGuard_97 ?_
          refine lv_iload_n hx hb dX8_readsGuard_100 rfl (lv_at hl 1 rfl) ?_
          refine lv_iconst (v := 1) hx hb dX8_readsGuard_101 (by decide) ?_
          refine lv_iadd hx hb dX8_readsGuard_102 ?_
          refine lv_iload_n hx hb dX8_readsGuard_103 rfl (lv_at hl 0 rfl) ?_
          have hb131 : ¬ (x104 + 1 < 0 ∨ 65 ≤ Int32.toNatClampNeg (x104 + 1)) := fun q => hs (hF.trans (if_pos q))
          have hF := hF.trans (if_neg hb131)
          refine km_iast (t := 37) (i := 0) (n := 65) hx hb hK hw (by decide) (by decide) (fun _ => rfl) hb131 dX8_readsGuard_104 (fun H locs hw => ?_)
          obtain ⟨v132, ev132⟩ : ∃ z, z = up3 v130 37 0 (Int32.toNatClampNeg (x104 + 1)) r106 := ⟨_, rfl⟩
          rw [← ev132] at hw
          have hF := hF.trans (kb_some (congrArg some ev132.symm) _)
          refine lv_aload_n hx hb dX8_readsGuard_105 rfl (lv_at hl 3 rfl) ?_
          refine km_get (ci := 8) (C := RX8) (T := TX8) (N := 23) (t := 30) (i := 0) hx hb hts fi_X8_readsGuard_X8 hown hK hw (by decide) (by decide) rfl rfl 14 (by decide) (hts (.fieldLink RX8 28 "WrongWordModel" "draft" "[I") ow_X8_readsGuard_28) rfl dX8_readsGuard_106 ?_
          refine lv_bipush (v := 6) hx hb dX8_readsGuard_109 (by decide) ?_
          refine lv_dup2_11 hx hb dX8_readsGuard_111 rfl rfl ?_
          refine km_iald (t := 37) (i := 0) hx hb hK hw (by decide) (by decide) rfl (by unfold vp_in; decide) dX8_readsGuard_112 ?_
          refine lv_iconst (v := 1) hx hb dX8_readsGuard_113 (by decide) ?_
          refine lv_aload_n hx hb dX8_readsGuard_114 rfl (lv_at hl 3 rfl) ?_
          refine km_get (ci := 8) (C := RX8) (T := TX8) (N := 23) (t := 30) (i := 0) hx hb hts fi_X8_readsGuard_X8 hown hK hw (by decide) (by decide) rfl rfl 14 (by decide) (hts (.fieldLink RX8 28 "WrongWordModel" "draft" "[I") ow_X8_readsGuard_28) rfl dX8_readsGuard_115 ?_
          refine lv_iconst (v := 4) hx hb dX8_readsGuard_118 (by decide) ?_
          refine km_iald (t := 37) (i := 0) hx hb hK hw (by decide) (by decide) rfl (by unfold vp_in; decide) dX8_readsGuard_119 ?_
          refine lv_ishl hx hb dX8_readsGuard_120 ?_
          refine lv_ior hx hb dX8_readsGuard_121 ?_
          refine km_iast (t := 37) (i := 0) (n := 65) hx hb hK hw (by decide) (by decide) (fun _ => rfl) (by unfold vp_in; decide) dX8_readsGuard_122 (fun H locs hw => ?_)
          obtain ⟨v133, ev133⟩ : ∃ z, z = up3 v132 37 0 (Int32.toNatClampNeg 6) ((v132 37 0 (Int32.toNatClampNeg 6)) ||| ((1 : Int32) <<< ((v132 37 0 (Int32.toNatClampNeg 4)) &&& 31))) := ⟨_, rfl⟩
          rw [← ev133] at hw
          have hF := hF.trans (kb_some (congrArg some ev133.symm) _)
          refine lv_aload_n hx hb dX8_readsGuard_123 rfl (lv_at hl 3 rfl) ?_
          refine km_get (ci := 8) (C := RX8) (T := TX8) (N := 23) (t := 30) (i := 0) hx hb hts fi_X8_readsGuard_X8 hown hK hw (by decide) (by decide) rfl rfl 14 (by decide) (hts (.fieldLink RX8 28 "WrongWordModel" "draft" "[I") ow_X8_readsGuard_28) rfl dX8_readsGuard_124 ?_
          refine lv_iconst (v := 4) hx hb dX8_readsGuard_127 (by decide) ?_
          refine lv_dup2_11 hx hb dX8_readsGuard_128 rfl rfl ?_
          refine km_iald (t := 37) (i := 0) hx hb hK hw (by decide) (by decide) rfl (by unfold vp_in; decide) dX8_readsGuard_129 ?_
          refine lv_iconst (v := 1) hx hb dX8_readsGuard_130 (by decide) ?_
          refine lv_iadd hx hb dX8_readsGuard_131 ?_
          refine km_iast (t := 37) (i := 0) (n := 65) hx hb hK hw (by decide) (by decide) (fun _ => rfl) (by unfold vp_in; decide) dX8_readsGuard_132 (fun H locs hw => ?_)
          obtain ⟨v134, ev134⟩ : ∃ z, z = up3 v133 37 0 (Int32.toNatClampNeg 4) ((v133 37 0 (Int32.toNatClampNeg 4)) + 1) := ⟨_, rfl⟩
          rw [← ev134] at hw
          have hF := hF.trans (kb_some (congrArg some ev134.symm) _)
          exact hret _ _ _ _ _ hw dX8_readsGuard_133 hF
abbrev rmX8_must : Room := { frames := 3, cells := 0, slots := 0, locals := 66 }
def g_X8_must (v : Mm) (a1 : Int32) : Option (Mm) := Option.bind (g_X8_isWell v) (fun r2 => if r2 = 0 then (some v) else (if a1 = 0 then (kb2 (g_X8_takes v 0 1) (fun r7 v8 => some v8)) else (some v)))
set_option maxHeartbeats 4000000 in
set_option maxRecDepth 100000 in
theorem d_X8_must (l : Launch) (E : kq_T) (Z : km_Z) (v : Mm) (a1 : Int32) (hs : g_X8_must v a1 ≠ none) : km_V l E Z cntM yX8_must wsX8_must rmX8_must [.ref (Z.1 30 0), .int a1] v (fun v1 => g_X8_must v a1 = some v1) := by
  refine km_goV (cc := cX8_must) (maxL := 2) (by decide) rfl (Nat.le_of_ble_eq_true rfl) rfl rfl rfl ?_
  intro p e s m below meth c A ls Q C hK hw hl hret
  obtain ⟨hx, hb, hml, hown, hts, -, -, -⟩ := C
  have hown : s.vm.findClass RX8 = some m.cls := hown
  have hl : lv_has ls 2 [(0, .ref (Z.1 30 0)), (1, .int a1)] := hl
  have hF := g_X8_must.eq_1 v a1
  refine lv_aload_n hx hb dX8_must_0 rfl (lv_at hl 0 rfl) ?_
  have hs1 : g_X8_isWell v ≠ none := fun q => hs (hF.trans (kb_n q _))
  refine km_cI (As := []) (rest := []) (n := 0) (q := (RX8, TX8, 23)) (ci := 8) (t := 30) (i := 0) ⟨hx, hb, hml, hown, hts⟩ (d_X8_isWell l E Z v  hs1) gX8_must_X8_isWell rfl hV_X8_isWell ⟨Nat.le_of_ble_eq_true rfl, Nat.le_of_ble_eq_true rfl⟩ hK hw (by decide) (by decide) rfl rfl rfl hl.1 rfl (Nat.le_of_ble_eq_true rfl) dX8_must_1 rfl rfl (fun r2 v3 H locs hp hw => ?_)
  obtain ⟨hp, hzr2⟩ := hp
  obtain ⟨hp, rfl⟩ := hp
  have hF := hF.trans (kb_some hp _)
  refine lv_if_eq (tgt := 18) hx hb dX8_must_4 (by decide) (fun c4 => ?_) (fun c4 => ?_)
  · skip
    have hF := hF.trans (if_pos c4)
    exact hret _ _ _ _ _ hw dX8_must_18 hF
  · skip
    have hF := hF.trans (if_neg c4)
    refine lv_iload_n hx hb dX8_must_7 rfl (lv_at hl 1 rfl) ?_
    refine lv_if_ne (tgt := 18) hx hb dX8_must_8 (by decide) (fun c5 => ?_) (fun c5 => ?_)
    · skip
      have hF := hF.trans (if_neg c5)
      exact hret _ _ _ _ _ hw dX8_must_18 hF
    · skip
      have hF := hF.trans (if_pos c5)
      refine lv_aload_n hx hb dX8_must_11 rfl (lv_at hl 0 rfl) ?_
      refine lv_iconst (v := 0) hx hb dX8_must_12 (by decide) ?_
      refine lv_iconst (v := 1) hx hb dX8_must_13 (by decide) ?_
      have hs6 : g_X8_takes v 0 1 ≠ none := fun q => hs (hF.trans (kb2_n q _))
      refine km_cI (As := [.int 0, .int 1]) (rest := []) (n := 2) (q := (RX8, TX8, 23)) (ci := 8) (t := 30) (i := 0) ⟨hx, hb, hml, hown, hts⟩ (d_X8_takes l E Z v 0 1 hs6) gX8_must_X8_takes rfl hV_X8_takes ⟨Nat.le_of_ble_eq_true rfl, Nat.le_of_ble_eq_true rfl⟩ hK hw (by decide) (by decide) rfl rfl rfl hl.1 rfl (Nat.le_of_ble_eq_true rfl) dX8_must_14 rfl rfl (fun r7 v8 H locs hp hw => ?_)
      have hF := hF.trans (kb2_some hp _)
      refine lv_pop hx hb dX8_must_17 rfl ?_
      exact hret _ _ _ _ _ hw dX8_must_18 hF
abbrev rmX8_gate : Room := { frames := 5, cells := 0, slots := 0, locals := 111 }
def b_X8_gate_L205  (rec205 : Mm → Int32 → Option (Int32 × Mm))  (w205 : Mm) (x1_205 : Int32) : Option (Int32 × Mm) := Option.bind (g_X8_isWell w205) (fun r40 => if r40 = 0 then (if w205 30 0 11 = 0 then (Option.bind (g_X8_must w205 1) (fun v58 => Option.bind (some (up3 v58 30 0 6 0)) (fun v59 => Option.bind (g_X8_isWell v59) (fun r61 => if r61 = 0 then (some (((-1000100)) - (v59 30 0 8), v59)) else (Option.bind (g_X8_copies_37_36 v59 0 0) (fun v66 => Option.bind (some (up3 v66 30 0 17 0)) (fun v67 => some (v67 36 0 (Int32.toNatClampNeg 3), v67)))))))) else (Option.bind (g_X8_must w205 0) (fun v46 => Option.bind (some (up3 v46 30 0 6 0)) (fun v47 => Option.bind (g_X8_isWell v47) (fun r49 => if r49 = 0 then (some (((-1000100)) - (v47 30 0 8), v47)) else (Option.bind (g_X8_copies_37_36 v47 0 0) (fun v54 => Option.bind (some (up3 v54 30 0 17 0)) (fun v55 => some (v55 36 0 (Int32.toNatClampNeg 3), v55))))))))) else (if w205 30 0 11 = 1 then (Option.bind (g_X8_kindOf w205 (w205 30 0 12)) (fun r95 => if r95 ≤ 0 then (if w205 30 0 11 = 0 then (Option.bind (g_X8_must w205 1) (fun v113 => Option.bind (some (up3 v113 30 0 6 0)) (fun v114 => Option.bind (g_X8_isWell v114) (fun r116 => if r116 = 0 then (some (((-1000100)) - (v114 30 0 8), v114)) else (Option.bind (g_X8_copies_37_36 v114 0 0) (fun v121 => Option.bind (some (up3 v121 30 0 17 0)) (fun v122 => some (v122 36 0 (Int32.toNatClampNeg 3), v122)))))))) else (Option.bind (g_X8_must w205 0) (fun v101 => Option.bind (some (up3 v101 30 0 6 0)) (fun v102 => Option.bind (g_X8_isWell v102) (fun r104 => if r104 = 0 then (some (((-1000100)) - (v102 30 0 8), v102)) else (Option.bind (g_X8_copies_37_36 v102 0 0) (fun v109 => Option.bind (some (up3 v109 30 0 17 0)) (fun v110 => some (v110 36 0 (Int32.toNatClampNeg 3), v110))))))))) else (Option.bind (g_X8_readsGuard w205) (fun v125 => rec205 v125 x1_205)))) else (if w205 30 0 11 = 0 then (Option.bind (g_X8_must w205 1) (fun v84 => Option.bind (some (up3 v84 30 0 6 0)) (fun v85 => Option.bind (g_X8_isWell v85) (fun r87 => if r87 = 0 then (some (((-1000100)) - (v85 30 0 8), v85)) else (Option.bind (g_X8_copies_37_36 v85 0 0) (fun v92 => Option.bind (some (up3 v92 30 0 17 0)) (fun v93 => some (v93 36 0 (Int32.toNatClampNeg 3), v93)))))))) else (Option.bind (g_X8_must w205 0) (fun v72 => Option.bind (some (up3 v72 30 0 6 0)) (fun v73 => Option.bind (g_X8_isWell v73) (fun r75 => if r75 = 0 then (some (((-1000100)) - (v73 30 0 8), v73)) else (Option.bind (g_X8_copies_37_36 v73 0 0) (fun v80 => Option.bind (some (up3 v80 30 0 17 0)) (fun v81 => some (v81 36 0 (Int32.toNatClampNeg 3), v81)))))))))))
def g_X8_gate_L205   : Nat → Mm → Int32 → Option (Int32 × Mm)
  | 0 => fun _ _ => none
  | n + 1 => b_X8_gate_L205  (g_X8_gate_L205   n) 
def b_X8_gate_L147  (rec147 : Mm → Int32 → Option (Int32 × Mm))  (w147 : Mm) (x1_147 : Int32) : Option (Int32 × Mm) := Option.bind (g_X8_isWell w147) (fun r32 => if r32 = 0 then (if w147 30 0 11 = 1 then (Option.bind (g_X8_kindOf w147 (w147 30 0 12)) (fun r40 => if r40 ≤ 0 then (Option.bind (g_X8_must w147 0) (fun v45 => g_X8_gate_L205   2000 v45 x1_147)) else (Option.bind (g_X8_must w147 1) (fun v48 => g_X8_gate_L205   2000 v48 x1_147)))) else (Option.bind (g_X8_must w147 0) (fun v38 => g_X8_gate_L205   2000 v38 x1_147))) else (if w147 30 0 11 = 1 then (if w147 30 0 12 = 119 then (Option.bind (g_X8_readsWord w147) (fun v81 => rec147 v81 x1_147)) else (if w147 30 0 11 = 1 then (Option.bind (g_X8_kindOf w147 (w147 30 0 12)) (fun r70 => if r70 ≤ 0 then (Option.bind (g_X8_must w147 0) (fun v75 => g_X8_gate_L205   2000 v75 x1_147)) else (Option.bind (g_X8_must w147 1) (fun v78 => g_X8_gate_L205   2000 v78 x1_147)))) else (Option.bind (g_X8_must w147 0) (fun v68 => g_X8_gate_L205   2000 v68 x1_147)))) else (if w147 30 0 11 = 1 then (Option.bind (g_X8_kindOf w147 (w147 30 0 12)) (fun r55 => if r55 ≤ 0 then (Option.bind (g_X8_must w147 0) (fun v60 => g_X8_gate_L205   2000 v60 x1_147)) else (Option.bind (g_X8_must w147 1) (fun v63 => g_X8_gate_L205   2000 v63 x1_147)))) else (Option.bind (g_X8_must w147 0) (fun v53 => g_X8_gate_L205   2000 v53 x1_147)))))
def g_X8_gate_L147   : Nat → Mm → Int32 → Option (Int32 × Mm)
  | 0 => fun _ _ => none
  | n + 1 => b_X8_gate_L147  (g_X8_gate_L147   n) 
def b_X8_gate_L2  (rec2 : Mm → Int32 → Option (Int32 × Mm))  (w2 : Mm) (x1_2 : Int32) : Option (Int32 × Mm) := if 65 ≤ x1_2 then (Option.bind (some (up3 w2 30 0 9 0)) (fun v2 => Option.bind (some (up3 v2 30 0 8 ((-1)))) (fun v3 => Option.bind (g_X8_advances v3) (fun v6 => if v6 30 0 11 = 1 then (if v6 30 0 12 = 113 then (kb2 (g_X8_takes v6 1 1) (fun r98 v99 => kb2 (g_X8_figure v99 0 9) (fun r101 v102 => Option.bind (some (up3 v102 37 0 (Int32.toNatClampNeg 0) r101)) (fun v103 => kb2 (g_X8_follows v103 0 9) (fun r105 v106 => Option.bind (some (up3 v106 37 0 (Int32.toNatClampNeg 1) r105)) (fun v107 => kb2 (g_X8_follows v107 0 6) (fun r109 v110 => Option.bind (some (up3 v110 37 0 (Int32.toNatClampNeg 2) r109)) (fun v111 => if v111 30 0 11 = 4 then (kb2 (g_X8_takes v111 1 1) (fun r128 v129 => if v129 30 0 11 = 1 then (if v129 30 0 12 = 119 then (Option.bind (g_X8_must v129 1) (fun v140 => g_X8_gate_L147   2000 v140 x1_2)) else (Option.bind (g_X8_must v129 0) (fun v137 => g_X8_gate_L147   2000 v137 x1_2))) else (Option.bind (g_X8_must v129 0) (fun v133 => g_X8_gate_L147   2000 v133 x1_2)))) else (kb2 (g_X8_takes v111 0 1) (fun r114 v115 => if v115 30 0 11 = 1 then (if v115 30 0 12 = 119 then (Option.bind (g_X8_must v115 1) (fun v126 => g_X8_gate_L147   2000 v126 x1_2)) else (Option.bind (g_X8_must v115 0) (fun v123 => g_X8_gate_L147   2000 v123 x1_2))) else (Option.bind (g_X8_must v115 0) (fun v119 => g_X8_gate_L147   2000 v119 x1_2)))))))))))) else (kb2 (g_X8_takes v6 0 1) (fun r54 v55 => kb2 (g_X8_figure v55 0 9) (fun r57 v58 => Option.bind (some (up3 v58 37 0 (Int32.toNatClampNeg 0) r57)) (fun v59 => kb2 (g_X8_follows v59 0 9) (fun r61 v62 => Option.bind (some (up3 v62 37 0 (Int32.toNatClampNeg 1) r61)) (fun v63 => kb2 (g_X8_follows v63 0 6) (fun r65 v66 => Option.bind (some (up3 v66 37 0 (Int32.toNatClampNeg 2) r65)) (fun v67 => if v67 30 0 11 = 4 then (kb2 (g_X8_takes v67 1 1) (fun r84 v85 => if v85 30 0 11 = 1 then (if v85 30 0 12 = 119 then (Option.bind (g_X8_must v85 1) (fun v96 => g_X8_gate_L147   2000 v96 x1_2)) else (Option.bind (g_X8_must v85 0) (fun v93 => g_X8_gate_L147   2000 v93 x1_2))) else (Option.bind (g_X8_must v85 0) (fun v89 => g_X8_gate_L147   2000 v89 x1_2)))) else (kb2 (g_X8_takes v67 0 1) (fun r70 v71 => if v71 30 0 11 = 1 then (if v71 30 0 12 = 119 then (Option.bind (g_X8_must v71 1) (fun v82 => g_X8_gate_L147   2000 v82 x1_2)) else (Option.bind (g_X8_must v71 0) (fun v79 => g_X8_gate_L147   2000 v79 x1_2))) else (Option.bind (g_X8_must v71 0) (fun v75 => g_X8_gate_L147   2000 v75 x1_2))))))))))))) else (kb2 (g_X8_takes v6 0 1) (fun r9 v10 => kb2 (g_X8_figure v10 0 9) (fun r12 v13 => Option.bind (some (up3 v13 37 0 (Int32.toNatClampNeg 0) r12)) (fun v14 => kb2 (g_X8_follows v14 0 9) (fun r16 v17 => Option.bind (some (up3 v17 37 0 (Int32.toNatClampNeg 1) r16)) (fun v18 => kb2 (g_X8_follows v18 0 6) (fun r20 v21 => Option.bind (some (up3 v21 37 0 (Int32.toNatClampNeg 2) r20)) (fun v22 => if v22 30 0 11 = 4 then (kb2 (g_X8_takes v22 1 1) (fun r39 v40 => if v40 30 0 11 = 1 then (if v40 30 0 12 = 119 then (Option.bind (g_X8_must v40 1) (fun v51 => g_X8_gate_L147   2000 v51 x1_2)) else (Option.bind (g_X8_must v40 0) (fun v48 => g_X8_gate_L147   2000 v48 x1_2))) else (Option.bind (g_X8_must v40 0) (fun v44 => g_X8_gate_L147   2000 v44 x1_2)))) else (kb2 (g_X8_takes v22 0 1) (fun r25 v26 => if v26 30 0 11 = 1 then (if v26 30 0 12 = 119 then (Option.bind (g_X8_must v26 1) (fun v37 => g_X8_gate_L147   2000 v37 x1_2)) else (Option.bind (g_X8_must v26 0) (fun v34 => g_X8_gate_L147   2000 v34 x1_2))) else (Option.bind (g_X8_must v26 0) (fun v30 => g_X8_gate_L147   2000 v30 x1_2)))))))))))))))) else (if x1_2 < 0 ∨ 65 ≤ Int32.toNatClampNeg x1_2 then none else (Option.bind (some (up3 w2 37 0 (Int32.toNatClampNeg x1_2) 0)) (fun v142 => rec2 v142 (x1_2 + 1))))
def g_X8_gate_L2   : Nat → Mm → Int32 → Option (Int32 × Mm)
  | 0 => fun _ _ => none
  | n + 1 => b_X8_gate_L2  (g_X8_gate_L2   n) 
def g_X8_gate (v : Mm)  : Option (Int32 × Mm) := g_X8_gate_L2   2000 v 0
set_option maxHeartbeats 4000000 in
set_option maxRecDepth 100000 in
theorem d_X8_gate (l : Launch) (E : kq_T) (Z : km_Z) (v : Mm) (hs : g_X8_gate v ≠ none) : km_I l E Z cntM yX8_gate wsX8_gate rmX8_gate [.ref (Z.1 30 0)] v (fun r v1 => g_X8_gate v = some (r, v1)) := by
  refine km_goI (cc := cX8_gate) (maxL := 2) (by decide) rfl (Nat.le_of_ble_eq_true rfl) rfl rfl rfl ?_
  intro p e s m below meth c A ls Q C hK hw hl hret
  obtain ⟨hx, hb, hml, hown, hts, -, -, -⟩ := C
  have hown : s.vm.findClass RX8 = some m.cls := hown
  have hl : lv_has ls 2 [(0, .ref (Z.1 30 0))] := hl
  have hF := g_X8_gate.eq_1 v 
  have loop205 : ∀ (n205 : Nat) (w205 : Mm) (x1_205 : Int32) (H : Heap) (locs : List Loc) (ls : Array Slot), g_X8_gate v = g_X8_gate_L205   n205 w205 x1_205 → km_w E A s.heap [] Z cntM w205 H locs → lv_has ls 2 [(0, .ref (Z.1 30 0)), (1, .int x1_205)] → W p l e rmX8_gate s m [.ref (Z.1 30 0)].toArray below meth c H locs 0 0 Q (F0 m 205 ls []) := by
    intro n205
    induction n205 with
    | zero => intro w205 x1_205 H locs ls hF hw hl; exact absurd (show g_X8_gate v = none from hF) hs
    | succ n205 ih205 =>
      intro w205 x1_205 H locs ls hF hw hl
      have hF := hF.trans (b_X8_gate_L205.eq_1  (g_X8_gate_L205   n205)  w205 x1_205)
      refine lv_aload_n hx hb dX8_gate_205 rfl (lv_at hl 0 rfl) ?_
      have hs1 : g_X8_isWell w205 ≠ none := fun q => hs (hF.trans (kb_n q _))
      refine km_cI (As := []) (rest := []) (n := 0) (q := (RX8, TX8, 23)) (ci := 8) (t := 30) (i := 0) ⟨hx, hb, hml, hown, hts⟩ (d_X8_isWell l E Z w205  hs1) gX8_gate_X8_isWell rfl hV_X8_isWell ⟨Nat.le_of_ble_eq_true rfl, Nat.le_of_ble_eq_true rfl⟩ hK hw (by decide) (by decide) rfl rfl rfl hl.1 rfl (Nat.le_of_ble_eq_true rfl) dX8_gate_206 rfl rfl (fun r2 v3 H locs hp hw => ?_)
      obtain ⟨hp, hzr2⟩ := hp
      obtain ⟨hp, rfl⟩ := hp
      have hF := hF.trans (kb_some hp _)
      refine lv_if_eq (tgt := 237) hx hb dX8_gate_209 (by decide) (fun c4 => ?_) (fun c4 => ?_)
      · skip
        have hF := hF.trans (if_pos c4)
        refine lv_aload_n hx hb dX8_gate_237 rfl (lv_at hl 0 rfl) ?_
        refine lv_aload_n hx hb dX8_gate_238 rfl (lv_at hl 0 rfl) ?_
        refine km_get (ci := 8) (C := RX8) (T := TX8) (N := 23) (t := 30) (i := 0) hx hb hts fi_X8_gate_X8 hown hK hw (by decide) (by decide) rfl rfl 11 (by decide) (hts (.fieldLink RX8 98 "WrongWordModel" "token" "I") ow_X8_gate_98) rfl dX8_gate_239 ?_
        refine lv_if_ne (tgt := 249) hx hb dX8_gate_242 (by decide) (fun c5 => ?_) (fun c5 => ?_)
        · skip
          have hF := hF.trans (if_neg c5)
          refine lv_iconst (v := 0) hx hb dX8_gate_249 (by decide) ?_
          have hs6 : g_X8_must w205 0 ≠ none := fun q => hs (hF.trans (kb_n q _))
          refine km_cV (As := [.int 0]) (rest := []) (n := 1) (q := (RX8, TX8, 23)) (ci := 8) (t := 30) (i := 0) ⟨hx, hb, hml, hown, hts⟩ (d_X8_must l E Z w205 0 hs6) gX8_gate_X8_must rfl hV_X8_must ⟨Nat.le_of_ble_eq_true rfl, Nat.le_of_ble_eq_true rfl⟩ hK hw (by decide) (by decide) rfl rfl rfl hl.1 rfl (Nat.le_of_ble_eq_true rfl) dX8_gate_250 rfl rfl (fun v8 H locs hp hw => ?_)
          have hF := hF.trans (kb_some hp _)
          refine lv_aload_n hx hb dX8_gate_253 rfl (lv_at hl 0 rfl) ?_
          refine lv_iconst (v := 0) hx hb dX8_gate_254 (by decide) ?_
          refine km_put (ci := 8) (C := RX8) (T := TX8) (N := 23) (t := 30) (i := 0) hx hb hts fi_X8_gate_X8 tyX8 tyX8_ok nmX8 hown hK hw (by decide) (by decide) rfl rfl 6 (by decide) (hts (.fieldLink RX8 82 "WrongWordModel" "taped" "I") ow_X8_gate_82) rfl (by decide +kernel) (Nat.le_of_ble_eq_true rfl) rfl dX8_gate_255 (fun H locs hw => ?_)
          obtain ⟨v9, ev9⟩ : ∃ z, z = up3 v8 30 0 6 0 := ⟨_, rfl⟩
          rw [← ev9] at hw
          have hF := hF.trans (kb_some (congrArg some ev9.symm) _)
          refine lv_aload_n hx hb dX8_gate_258 rfl (lv_at hl 0 rfl) ?_
          have hs10 : g_X8_isWell v9 ≠ none := fun q => hs (hF.trans (kb_n q _))
          refine km_cI (As := []) (rest := []) (n := 0) (q := (RX8, TX8, 23)) (ci := 8) (t := 30) (i := 0) ⟨hx, hb, hml, hown, hts⟩ (d_X8_isWell l E Z v9  hs10) gX8_gate_X8_isWell rfl hV_X8_isWell ⟨Nat.le_of_ble_eq_true rfl, Nat.le_of_ble_eq_true rfl⟩ hK hw (by decide) (by decide) rfl rfl rfl hl.1 rfl (Nat.le_of_ble_eq_true rfl) dX8_gate_259 rfl rfl (fun r11 v12 H locs hp hw => ?_)
          obtain ⟨hp, hzr11⟩ := hp
          obtain ⟨hp, rfl⟩ := hp
          have hF := hF.trans (kb_some hp _)
          refine lv_if_ne (tgt := 273) hx hb dX8_gate_262 (by decide) (fun c13 => ?_) (fun c13 => ?_)
          · skip
            have hF := hF.trans (if_neg c13)
            refine lv_aload_n hx hb dX8_gate_273 rfl (lv_at hl 0 rfl) ?_
            refine km_get (ci := 8) (C := RX8) (T := TX8) (N := 23) (t := 30) (i := 0) hx hb hts fi_X8_gate_X8 hown hK hw (by decide) (by decide) rfl rfl 14 (by decide) (hts (.fieldLink RX8 28 "WrongWordModel" "draft" "[I") ow_X8_gate_28) rfl dX8_gate_274 ?_
            refine lv_iconst (v := 0) hx hb dX8_gate_277 (by decide) ?_
            refine lv_aload_n hx hb dX8_gate_278 rfl (lv_at hl 0 rfl) ?_
            refine km_get (ci := 8) (C := RX8) (T := TX8) (N := 23) (t := 30) (i := 0) hx hb hts fi_X8_gate_X8 hown hK hw (by decide) (by decide) rfl rfl 13 (by decide) (hts (.fieldLink RX8 25 "WrongWordModel" "now" "[I") ow_X8_gate_25) rfl dX8_gate_279 ?_
            refine lv_iconst (v := 0) hx hb dX8_gate_282 (by decide) ?_
            have hs14 : g_X8_copies_37_36 v9 0 0 ≠ none := fun q => hs (hF.trans (kb_n q _))
            refine km_cSV (As := [.ref (Z.1 37 0), .int 0, .ref (Z.1 36 0), .int 0]) (rest := []) (n := 4) ⟨hx, hb, hml, hown, hts⟩ (d_X8_copies_37_36 l E Z v9 0 0 hs14) gX8_gate_X8_copies rfl hV_X8_copies ⟨Nat.le_of_ble_eq_true rfl, Nat.le_of_ble_eq_true rfl⟩ hK hw rfl hl.1 rfl (Nat.le_of_ble_eq_true rfl) dX8_gate_283 rfl rfl (fun v16 H locs hp hw => ?_)
            have hF := hF.trans (kb_some hp _)
            refine lv_aload_n hx hb dX8_gate_286 rfl (lv_at hl 0 rfl) ?_
            refine lv_iconst (v := 0) hx hb dX8_gate_287 (by decide) ?_
            refine km_put (ci := 8) (C := RX8) (T := TX8) (N := 23) (t := 30) (i := 0) hx hb hts fi_X8_gate_X8 tyX8 tyX8_ok nmX8 hown hK hw (by decide) (by decide) rfl rfl 17 (by decide) (hts (.fieldLink RX8 149 "WrongWordModel" "acts" "I") ow_X8_gate_149) rfl (by decide +kernel) (Nat.le_of_ble_eq_true rfl) rfl dX8_gate_288 (fun H locs hw => ?_)
            obtain ⟨v17, ev17⟩ : ∃ z, z = up3 v16 30 0 17 0 := ⟨_, rfl⟩
            rw [← ev17] at hw
            have hF := hF.trans (kb_some (congrArg some ev17.symm) _)
            refine lv_aload_n hx hb dX8_gate_291 rfl (lv_at hl 0 rfl) ?_
            refine km_get (ci := 8) (C := RX8) (T := TX8) (N := 23) (t := 30) (i := 0) hx hb hts fi_X8_gate_X8 hown hK hw (by decide) (by decide) rfl rfl 13 (by decide) (hts (.fieldLink RX8 25 "WrongWordModel" "now" "[I") ow_X8_gate_25) rfl dX8_gate_292 ?_
            refine lv_iconst (v := 3) hx hb dX8_gate_295 (by decide) ?_
            refine km_iald (t := 36) (i := 0) hx hb hK hw (by decide) (by decide) rfl (by unfold vp_in; decide) dX8_gate_296 ?_
            exact hret _ _ _ _ _ _ hw dX8_gate_297 hF
          · skip
            have hF := hF.trans (if_pos c13)
            refine lv_ldc (v := (-1000100)) hx hb hown (hts (.constant RX8 144 (-1000100)) ow_X8_gate_144) dX8_gate_265 ?_
            refine lv_aload_n hx hb dX8_gate_267 rfl (lv_at hl 0 rfl) ?_
            refine km_get (ci := 8) (C := RX8) (T := TX8) (N := 23) (t := 30) (i := 0) hx hb hts fi_X8_gate_X8 hown hK hw (by decide) (by decide) rfl rfl 8 (by decide) (hts (.fieldLink RX8 101 "WrongWordModel" "faultPlace" "I") ow_X8_gate_101) rfl dX8_gate_268 ?_
            refine lv_isub hx hb dX8_gate_271 ?_
            exact hret _ _ _ _ _ _ hw dX8_gate_272 hF
        · skip
          have hF := hF.trans (if_pos c5)
          refine lv_iconst (v := 1) hx hb dX8_gate_245 (by decide) ?_
          refine lv_goto (tgt := 250) hx hb dX8_gate_246 (by decide) ?_
          have hs18 : g_X8_must w205 1 ≠ none := fun q => hs (hF.trans (kb_n q _))
          refine km_cV (As := [.int 1]) (rest := []) (n := 1) (q := (RX8, TX8, 23)) (ci := 8) (t := 30) (i := 0) ⟨hx, hb, hml, hown, hts⟩ (d_X8_must l E Z w205 1 hs18) gX8_gate_X8_must rfl hV_X8_must ⟨Nat.le_of_ble_eq_true rfl, Nat.le_of_ble_eq_true rfl⟩ hK hw (by decide) (by decide) rfl rfl rfl hl.1 rfl (Nat.le_of_ble_eq_true rfl) dX8_gate_250 rfl rfl (fun v20 H locs hp hw => ?_)
          have hF := hF.trans (kb_some hp _)
          refine lv_aload_n hx hb dX8_gate_253 rfl (lv_at hl 0 rfl) ?_
          refine lv_iconst (v := 0) hx hb dX8_gate_254 (by decide) ?_
          refine km_put (ci := 8) (C := RX8) (T := TX8) (N := 23) (t := 30) (i := 0) hx hb hts fi_X8_gate_X8 tyX8 tyX8_ok nmX8 hown hK hw (by decide) (by decide) rfl rfl 6 (by decide) (hts (.fieldLink RX8 82 "WrongWordModel" "taped" "I") ow_X8_gate_82) rfl (by decide +kernel) (Nat.le_of_ble_eq_true rfl) rfl dX8_gate_255 (fun H locs hw => ?_)
          obtain ⟨v21, ev21⟩ : ∃ z, z = up3 v20 30 0 6 0 := ⟨_, rfl⟩
          rw [← ev21] at hw
          have hF := hF.trans (kb_some (congrArg some ev21.symm) _)
          refine lv_aload_n hx hb dX8_gate_258 rfl (lv_at hl 0 rfl) ?_
          have hs22 : g_X8_isWell v21 ≠ none := fun q => hs (hF.trans (kb_n q _))
          refine km_cI (As := []) (rest := []) (n := 0) (q := (RX8, TX8, 23)) (ci := 8) (t := 30) (i := 0) ⟨hx, hb, hml, hown, hts⟩ (d_X8_isWell l E Z v21  hs22) gX8_gate_X8_isWell rfl hV_X8_isWell ⟨Nat.le_of_ble_eq_true rfl, Nat.le_of_ble_eq_true rfl⟩ hK hw (by decide) (by decide) rfl rfl rfl hl.1 rfl (Nat.le_of_ble_eq_true rfl) dX8_gate_259 rfl rfl (fun r23 v24 H locs hp hw => ?_)
          obtain ⟨hp, hzr23⟩ := hp
          obtain ⟨hp, rfl⟩ := hp
          have hF := hF.trans (kb_some hp _)
          refine lv_if_ne (tgt := 273) hx hb dX8_gate_262 (by decide) (fun c25 => ?_) (fun c25 => ?_)
          · skip
            have hF := hF.trans (if_neg c25)
            refine lv_aload_n hx hb dX8_gate_273 rfl (lv_at hl 0 rfl) ?_
            refine km_get (ci := 8) (C := RX8) (T := TX8) (N := 23) (t := 30) (i := 0) hx hb hts fi_X8_gate_X8 hown hK hw (by decide) (by decide) rfl rfl 14 (by decide) (hts (.fieldLink RX8 28 "WrongWordModel" "draft" "[I") ow_X8_gate_28) rfl dX8_gate_274 ?_
            refine lv_iconst (v := 0) hx hb dX8_gate_277 (by decide) ?_
            refine lv_aload_n hx hb dX8_gate_278 rfl (lv_at hl 0 rfl) ?_
            refine km_get (ci := 8) (C := RX8) (T := TX8) (N := 23) (t := 30) (i := 0) hx hb hts fi_X8_gate_X8 hown hK hw (by decide) (by decide) rfl rfl 13 (by decide) (hts (.fieldLink RX8 25 "WrongWordModel" "now" "[I") ow_X8_gate_25) rfl dX8_gate_279 ?_
            refine lv_iconst (v := 0) hx hb dX8_gate_282 (by decide) ?_
            have hs26 : g_X8_copies_37_36 v21 0 0 ≠ none := fun q => hs (hF.trans (kb_n q _))
            refine km_cSV (As := [.ref (Z.1 37 0), .int 0, .ref (Z.1 36 0), .int 0]) (rest := []) (n := 4) ⟨hx, hb, hml, hown, hts⟩ (d_X8_copies_37_36 l E Z v21 0 0 hs26) gX8_gate_X8_copies rfl hV_X8_copies ⟨Nat.le_of_ble_eq_true rfl, Nat.le_of_ble_eq_true rfl⟩ hK hw rfl hl.1 rfl (Nat.le_of_ble_eq_true rfl) dX8_gate_283 rfl rfl (fun v28 H locs hp hw => ?_)
            have hF := hF.trans (kb_some hp _)
            refine lv_aload_n hx hb dX8_gate_286 rfl (lv_at hl 0 rfl) ?_
            refine lv_iconst (v := 0) hx hb dX8_gate_287 (by decide) ?_
            refine km_put (ci := 8) (C := RX8) (T := TX8) (N := 23) (t := 30) (i := 0) hx hb hts fi_X8_gate_X8 tyX8 tyX8_ok nmX8 hown hK hw (by decide) (by decide) rfl rfl 17 (by decide) (hts (.fieldLink RX8 149 "WrongWordModel" "acts" "I") ow_X8_gate_149) rfl (by decide +kernel) (Nat.le_of_ble_eq_true rfl) rfl dX8_gate_288 (fun H locs hw => ?_)
            obtain ⟨v29, ev29⟩ : ∃ z, z = up3 v28 30 0 17 0 := ⟨_, rfl⟩
            rw [← ev29] at hw
            have hF := hF.trans (kb_some (congrArg some ev29.symm) _)
            refine lv_aload_n hx hb dX8_gate_291 rfl (lv_at hl 0 rfl) ?_
            refine km_get (ci := 8) (C := RX8) (T := TX8) (N := 23) (t := 30) (i := 0) hx hb hts fi_X8_gate_X8 hown hK hw (by decide) (by decide) rfl rfl 13 (by decide) (hts (.fieldLink RX8 25 "WrongWordModel" "now" "[I") ow_X8_gate_25) rfl dX8_gate_292 ?_
            refine lv_iconst (v := 3) hx hb dX8_gate_295 (by decide) ?_
            refine km_iald (t := 36) (i := 0) hx hb hK hw (by decide) (by decide) rfl (by unfold vp_in; decide) dX8_gate_296 ?_
            exact hret _ _ _ _ _ _ hw dX8_gate_297 hF
          · skip
            have hF := hF.trans (if_pos c25)
            refine lv_ldc (v := (-1000100)) hx hb hown (hts (.constant RX8 144 (-1000100)) ow_X8_gate_144) dX8_gate_265 ?_
            refine lv_aload_n hx hb dX8_gate_267 rfl (lv_at hl 0 rfl) ?_
            refine km_get (ci := 8) (C := RX8) (T := TX8) (N := 23) (t := 30) (i := 0) hx hb hts fi_X8_gate_X8 hown hK hw (by decide) (by decide) rfl rfl 8 (by decide) (hts (.fieldLink RX8 101 "WrongWordModel" "faultPlace" "I") ow_X8_gate_101) rfl dX8_gate_268 ?_
            refine lv_isub hx hb dX8_gate_271 ?_
            exact hret _ _ _ _ _ _ hw dX8_gate_272 hF
      · skip
        have hF := hF.trans (if_neg c4)
        refine lv_aload_n hx hb dX8_gate_212 rfl (lv_at hl 0 rfl) ?_
        refine km_get (ci := 8) (C := RX8) (T := TX8) (N := 23) (t := 30) (i := 0) hx hb hts fi_X8_gate_X8 hown hK hw (by decide) (by decide) rfl rfl 11 (by decide) (hts (.fieldLink RX8 98 "WrongWordModel" "token" "I") ow_X8_gate_98) rfl dX8_gate_213 ?_
        refine lv_iconst (v := 1) hx hb dX8_gate_216 (by decide) ?_
        refine lv_icmp_ne (tgt := 237) hx hb dX8_gate_217 (by decide) (fun c30 => ?_) (fun c30 => ?_)
        · skip
          have hF := hF.trans (if_neg c30)
          refine lv_aload_n hx hb dX8_gate_237 rfl (lv_at hl 0 rfl) ?_
          refine lv_aload_n hx hb dX8_gate_238 rfl (lv_at hl 0 rfl) ?_
          refine km_get (ci := 8) (C := RX8) (T := TX8) (N := 23) (t := 30) (i := 0) hx hb hts fi_X8_gate_X8 hown hK hw (by decide) (by decide) rfl rfl 11 (by decide) (hts (.fieldLink RX8 98 "WrongWordModel" "token" "I") ow_X8_gate_98) rfl dX8_gate_239 ?_
          refine lv_if_ne (tgt := 249) hx hb dX8_gate_242 (by decide) (fun c31 => ?_) (fun c31 => ?_)
          · skip
            have hF := hF.trans (if_neg c31)
            refine lv_iconst (v := 0) hx hb dX8_gate_249 (by decide) ?_
            have hs32 : g_X8_must w205 0 ≠ none := fun q => hs (hF.trans (kb_n q _))
            refine km_cV (As := [.int 0]) (rest := []) (n := 1) (q := (RX8, TX8, 23)) (ci := 8) (t := 30) (i := 0) ⟨hx, hb, hml, hown, hts⟩ (d_X8_must l E Z w205 0 hs32) gX8_gate_X8_must rfl hV_X8_must ⟨Nat.le_of_ble_eq_true rfl, Nat.le_of_ble_eq_true rfl⟩ hK hw (by decide) (by decide) rfl rfl rfl hl.1 rfl (Nat.le_of_ble_eq_true rfl) dX8_gate_250 rfl rfl (fun v34 H locs hp hw => ?_)
            have hF := hF.trans (kb_some hp _)
            refine lv_aload_n hx hb dX8_gate_253 rfl (lv_at hl 0 rfl) ?_
            refine lv_iconst (v := 0) hx hb dX8_gate_254 (by decide) ?_
            refine km_put (ci := 8) (C := RX8) (T := TX8) (N := 23) (t := 30) (i := 0) hx hb hts fi_X8_gate_X8 tyX8 tyX8_ok nmX8 hown hK hw (by decide) (by decide) rfl rfl 6 (by decide) (hts (.fieldLink RX8 82 "WrongWordModel" "taped" "I") ow_X8_gate_82) rfl (by decide +kernel) (Nat.le_of_ble_eq_true rfl) rfl dX8_gate_255 (fun H locs hw => ?_)
            obtain ⟨v35, ev35⟩ : ∃ z, z = up3 v34 30 0 6 0 := ⟨_, rfl⟩
            rw [← ev35] at hw
            have hF := hF.trans (kb_some (congrArg some ev35.symm) _)
            refine lv_aload_n hx hb dX8_gate_258 rfl (lv_at hl 0 rfl) ?_
            have hs36 : g_X8_isWell v35 ≠ none := fun q => hs (hF.trans (kb_n q _))
            refine km_cI (As := []) (rest := []) (n := 0) (q := (RX8, TX8, 23)) (ci := 8) (t := 30) (i := 0) ⟨hx, hb, hml, hown, hts⟩ (d_X8_isWell l E Z v35  hs36) gX8_gate_X8_isWell rfl hV_X8_isWell ⟨Nat.le_of_ble_eq_true rfl, Nat.le_of_ble_eq_true rfl⟩ hK hw (by decide) (by decide) rfl rfl rfl hl.1 rfl (Nat.le_of_ble_eq_true rfl) dX8_gate_259 rfl rfl (fun r37 v38 H locs hp hw => ?_)
            obtain ⟨hp, hzr37⟩ := hp
            obtain ⟨hp, rfl⟩ := hp
            have hF := hF.trans (kb_some hp _)
            refine lv_if_ne (tgt := 273) hx hb dX8_gate_262 (by decide) (fun c39 => ?_) (fun c39 => ?_)
            · skip
              have hF := hF.trans (if_neg c39)
              refine lv_aload_n hx hb dX8_gate_273 rfl (lv_at hl 0 rfl) ?_
              refine km_get (ci := 8) (C := RX8) (T := TX8) (N := 23) (t := 30) (i := 0) hx hb hts fi_X8_gate_X8 hown hK hw (by decide) (by decide) rfl rfl 14 (by decide) (hts (.fieldLink RX8 28 "WrongWordModel" "draft" "[I") ow_X8_gate_28) rfl dX8_gate_274 ?_
              refine lv_iconst (v := 0) hx hb dX8_gate_277 (by decide) ?_
              refine lv_aload_n hx hb dX8_gate_278 rfl (lv_at hl 0 rfl) ?_
              refine km_get (ci := 8) (C := RX8) (T := TX8) (N := 23) (t := 30) (i := 0) hx hb hts fi_X8_gate_X8 hown hK hw (by decide) (by decide) rfl rfl 13 (by decide) (hts (.fieldLink RX8 25 "WrongWordModel" "now" "[I") ow_X8_gate_25) rfl dX8_gate_279 ?_
              refine lv_iconst (v := 0) hx hb dX8_gate_282 (by decide) ?_
              have hs40 : g_X8_copies_37_36 v35 0 0 ≠ none := fun q => hs (hF.trans (kb_n q _))
              refine km_cSV (As := [.ref (Z.1 37 0), .int 0, .ref (Z.1 36 0), .int 0]) (rest := []) (n := 4) ⟨hx, hb, hml, hown, hts⟩ (d_X8_copies_37_36 l E Z v35 0 0 hs40) gX8_gate_X8_copies rfl hV_X8_copies ⟨Nat.le_of_ble_eq_true rfl, Nat.le_of_ble_eq_true rfl⟩ hK hw rfl hl.1 rfl (Nat.le_of_ble_eq_true rfl) dX8_gate_283 rfl rfl (fun v42 H locs hp hw => ?_)
              have hF := hF.trans (kb_some hp _)
              refine lv_aload_n hx hb dX8_gate_286 rfl (lv_at hl 0 rfl) ?_
              refine lv_iconst (v := 0) hx hb dX8_gate_287 (by decide) ?_
              refine km_put (ci := 8) (C := RX8) (T := TX8) (N := 23) (t := 30) (i := 0) hx hb hts fi_X8_gate_X8 tyX8 tyX8_ok nmX8 hown hK hw (by decide) (by decide) rfl rfl 17 (by decide) (hts (.fieldLink RX8 149 "WrongWordModel" "acts" "I") ow_X8_gate_149) rfl (by decide +kernel) (Nat.le_of_ble_eq_true rfl) rfl dX8_gate_288 (fun H locs hw => ?_)
              obtain ⟨v43, ev43⟩ : ∃ z, z = up3 v42 30 0 17 0 := ⟨_, rfl⟩
              rw [← ev43] at hw
              have hF := hF.trans (kb_some (congrArg some ev43.symm) _)
              refine lv_aload_n hx hb dX8_gate_291 rfl (lv_at hl 0 rfl) ?_
              refine km_get (ci := 8) (C := RX8) (T := TX8) (N := 23) (t := 30) (i := 0) hx hb hts fi_X8_gate_X8 hown hK hw (by decide) (by decide) rfl rfl 13 (by decide) (hts (.fieldLink RX8 25 "WrongWordModel" "now" "[I") ow_X8_gate_25) rfl dX8_gate_292 ?_
              refine lv_iconst (v := 3) hx hb dX8_gate_295 (by decide) ?_
              refine km_iald (t := 36) (i := 0) hx hb hK hw (by decide) (by decide) rfl (by unfold vp_in; decide) dX8_gate_296 ?_
              exact hret _ _ _ _ _ _ hw dX8_gate_297 hF
            · skip
              have hF := hF.trans (if_pos c39)
              refine lv_ldc (v := (-1000100)) hx hb hown (hts (.constant RX8 144 (-1000100)) ow_X8_gate_144) dX8_gate_265 ?_
              refine lv_aload_n hx hb dX8_gate_267 rfl (lv_at hl 0 rfl) ?_
              refine km_get (ci := 8) (C := RX8) (T := TX8) (N := 23) (t := 30) (i := 0) hx hb hts fi_X8_gate_X8 hown hK hw (by decide) (by decide) rfl rfl 8 (by decide) (hts (.fieldLink RX8 101 "WrongWordModel" "faultPlace" "I") ow_X8_gate_101) rfl dX8_gate_268 ?_
              refine lv_isub hx hb dX8_gate_271 ?_
              exact hret _ _ _ _ _ _ hw dX8_gate_272 hF
          · skip
            have hF := hF.trans (if_pos c31)
            refine lv_iconst (v := 1) hx hb dX8_gate_245 (by decide) ?_
            refine lv_goto (tgt := 250) hx hb dX8_gate_246 (by decide) ?_
            have hs44 : g_X8_must w205 1 ≠ none := fun q => hs (hF.trans (kb_n q _))
            refine km_cV (As := [.int 1]) (rest := []) (n := 1) (q := (RX8, TX8, 23)) (ci := 8) (t := 30) (i := 0) ⟨hx, hb, hml, hown, hts⟩ (d_X8_must l E Z w205 1 hs44) gX8_gate_X8_must rfl hV_X8_must ⟨Nat.le_of_ble_eq_true rfl, Nat.le_of_ble_eq_true rfl⟩ hK hw (by decide) (by decide) rfl rfl rfl hl.1 rfl (Nat.le_of_ble_eq_true rfl) dX8_gate_250 rfl rfl (fun v46 H locs hp hw => ?_)
            have hF := hF.trans (kb_some hp _)
            refine lv_aload_n hx hb dX8_gate_253 rfl (lv_at hl 0 rfl) ?_
            refine lv_iconst (v := 0) hx hb dX8_gate_254 (by decide) ?_
            refine km_put (ci := 8) (C := RX8) (T := TX8) (N := 23) (t := 30) (i := 0) hx hb hts fi_X8_gate_X8 tyX8 tyX8_ok nmX8 hown hK hw (by decide) (by decide) rfl rfl 6 (by decide) (hts (.fieldLink RX8 82 "WrongWordModel" "taped" "I") ow_X8_gate_82) rfl (by decide +kernel) (Nat.le_of_ble_eq_true rfl) rfl dX8_gate_255 (fun H locs hw => ?_)
            obtain ⟨v47, ev47⟩ : ∃ z, z = up3 v46 30 0 6 0 := ⟨_, rfl⟩
            rw [← ev47] at hw
            have hF := hF.trans (kb_some (congrArg some ev47.symm) _)
            refine lv_aload_n hx hb dX8_gate_258 rfl (lv_at hl 0 rfl) ?_
            have hs48 : g_X8_isWell v47 ≠ none := fun q => hs (hF.trans (kb_n q _))
            refine km_cI (As := []) (rest := []) (n := 0) (q := (RX8, TX8, 23)) (ci := 8) (t := 30) (i := 0) ⟨hx, hb, hml, hown, hts⟩ (d_X8_isWell l E Z v47  hs48) gX8_gate_X8_isWell rfl hV_X8_isWell ⟨Nat.le_of_ble_eq_true rfl, Nat.le_of_ble_eq_true rfl⟩ hK hw (by decide) (by decide) rfl rfl rfl hl.1 rfl (Nat.le_of_ble_eq_true rfl) dX8_gate_259 rfl rfl (fun r49 v50 H locs hp hw => ?_)
            obtain ⟨hp, hzr49⟩ := hp
            obtain ⟨hp, rfl⟩ := hp
            have hF := hF.trans (kb_some hp _)
            refine lv_if_ne (tgt := 273) hx hb dX8_gate_262 (by decide) (fun c51 => ?_) (fun c51 => ?_)
            · skip
              have hF := hF.trans (if_neg c51)
              refine lv_aload_n hx hb dX8_gate_273 rfl (lv_at hl 0 rfl) ?_
              refine km_get (ci := 8) (C := RX8) (T := TX8) (N := 23) (t := 30) (i := 0) hx hb hts fi_X8_gate_X8 hown hK hw (by decide) (by decide) rfl rfl 14 (by decide) (hts (.fieldLink RX8 28 "WrongWordModel" "draft" "[I") ow_X8_gate_28) rfl dX8_gate_274 ?_
              refine lv_iconst (v := 0) hx hb dX8_gate_277 (by decide) ?_
              refine lv_aload_n hx hb dX8_gate_278 rfl (lv_at hl 0 rfl) ?_
              refine km_get (ci := 8) (C := RX8) (T := TX8) (N := 23) (t := 30) (i := 0) hx hb hts fi_X8_gate_X8 hown hK hw (by decide) (by decide) rfl rfl 13 (by decide) (hts (.fieldLink RX8 25 "WrongWordModel" "now" "[I") ow_X8_gate_25) rfl dX8_gate_279 ?_
              refine lv_iconst (v := 0) hx hb dX8_gate_282 (by decide) ?_
              have hs52 : g_X8_copies_37_36 v47 0 0 ≠ none := fun q => hs (hF.trans (kb_n q _))
              refine km_cSV (As := [.ref (Z.1 37 0), .int 0, .ref (Z.1 36 0), .int 0]) (rest := []) (n := 4) ⟨hx, hb, hml, hown, hts⟩ (d_X8_copies_37_36 l E Z v47 0 0 hs52) gX8_gate_X8_copies rfl hV_X8_copies ⟨Nat.le_of_ble_eq_true rfl, Nat.le_of_ble_eq_true rfl⟩ hK hw rfl hl.1 rfl (Nat.le_of_ble_eq_true rfl) dX8_gate_283 rfl rfl (fun v54 H locs hp hw => ?_)
              have hF := hF.trans (kb_some hp _)
              refine lv_aload_n hx hb dX8_gate_286 rfl (lv_at hl 0 rfl) ?_
              refine lv_iconst (v := 0) hx hb dX8_gate_287 (by decide) ?_
              refine km_put (ci := 8) (C := RX8) (T := TX8) (N := 23) (t := 30) (i := 0) hx hb hts fi_X8_gate_X8 tyX8 tyX8_ok nmX8 hown hK hw (by decide) (by decide) rfl rfl 17 (by decide) (hts (.fieldLink RX8 149 "WrongWordModel" "acts" "I") ow_X8_gate_149) rfl (by decide +kernel) (Nat.le_of_ble_eq_true rfl) rfl dX8_gate_288 (fun H locs hw => ?_)
              obtain ⟨v55, ev55⟩ : ∃ z, z = up3 v54 30 0 17 0 := ⟨_, rfl⟩
              rw [← ev55] at hw
              have hF := hF.trans (kb_some (congrArg some ev55.symm) _)
              refine lv_aload_n hx hb dX8_gate_291 rfl (lv_at hl 0 rfl) ?_
              refine km_get (ci := 8) (C := RX8) (T := TX8) (N := 23) (t := 30) (i := 0) hx hb hts fi_X8_gate_X8 hown hK hw (by decide) (by decide) rfl rfl 13 (by decide) (hts (.fieldLink RX8 25 "WrongWordModel" "now" "[I") ow_X8_gate_25) rfl dX8_gate_292 ?_
              refine lv_iconst (v := 3) hx hb dX8_gate_295 (by decide) ?_
              refine km_iald (t := 36) (i := 0) hx hb hK hw (by decide) (by decide) rfl (by unfold vp_in; decide) dX8_gate_296 ?_
              exact hret _ _ _ _ _ _ hw dX8_gate_297 hF
            · skip
              have hF := hF.trans (if_pos c51)
              refine lv_ldc (v := (-1000100)) hx hb hown (hts (.constant RX8 144 (-1000100)) ow_X8_gate_144) dX8_gate_265 ?_
              refine lv_aload_n hx hb dX8_gate_267 rfl (lv_at hl 0 rfl) ?_
              refine km_get (ci := 8) (C := RX8) (T := TX8) (N := 23) (t := 30) (i := 0) hx hb hts fi_X8_gate_X8 hown hK hw (by decide) (by decide) rfl rfl 8 (by decide) (hts (.fieldLink RX8 101 "WrongWordModel" "faultPlace" "I") ow_X8_gate_101) rfl dX8_gate_268 ?_
              refine lv_isub hx hb dX8_gate_271 ?_
              exact hret _ _ _ _ _ _ hw dX8_gate_272 hF
        · skip
          have hF := hF.trans (if_pos c30)
          refine lv_aload_n hx hb dX8_gate_220 rfl (lv_at hl 0 rfl) ?_
          refine km_get (ci := 8) (C := RX8) (T := TX8) (N := 23) (t := 30) (i := 0) hx hb hts fi_X8_gate_X8 hown hK hw (by decide) (by decide) rfl rfl 12 (by decide) (hts (.fieldLink RX8 95 "WrongWordModel" "value" "I") ow_X8_gate_95) rfl dX8_gate_221 ?_
          have hs56 : g_X8_kindOf w205 (w205 30 0 12) ≠ none := fun q => hs (hF.trans (kb_n q _))
          refine km_cS (As := [.int (w205 30 0 12)]) (rest := []) (n := 1) ⟨hx, hb, hml, hown, hts⟩ (d_X8_kindOf l E Z w205 (w205 30 0 12) hs56) gX8_gate_X8_kindOf rfl hV_X8_kindOf ⟨Nat.le_of_ble_eq_true rfl, Nat.le_of_ble_eq_true rfl⟩ hK hw rfl hl.1 rfl (Nat.le_of_ble_eq_true rfl) dX8_gate_224 rfl rfl (fun r57 v58 H locs hp hw => ?_)
          obtain ⟨hp, rfl⟩ := hp
          have hF := hF.trans (kb_some hp _)
          refine lv_if_le (tgt := 237) hx hb dX8_gate_227 (by decide) (fun c59 => ?_) (fun c59 => ?_)
          · skip
            have hF := hF.trans (if_pos c59)
            refine lv_aload_n hx hb dX8_gate_237 rfl (lv_at hl 0 rfl) ?_
            refine lv_aload_n hx hb dX8_gate_238 rfl (lv_at hl 0 rfl) ?_
            refine km_get (ci := 8) (C := RX8) (T := TX8) (N := 23) (t := 30) (i := 0) hx hb hts fi_X8_gate_X8 hown hK hw (by decide) (by decide) rfl rfl 11 (by decide) (hts (.fieldLink RX8 98 "WrongWordModel" "token" "I") ow_X8_gate_98) rfl dX8_gate_239 ?_
            refine lv_if_ne (tgt := 249) hx hb dX8_gate_242 (by decide) (fun c60 => ?_) (fun c60 => ?_)
            · skip
              have hF := hF.trans (if_neg c60)
              refine lv_iconst (v := 0) hx hb dX8_gate_249 (by decide) ?_
              have hs61 : g_X8_must w205 0 ≠ none := fun q => hs (hF.trans (kb_n q _))
              refine km_cV (As := [.int 0]) (rest := []) (n := 1) (q := (RX8, TX8, 23)) (ci := 8) (t := 30) (i := 0) ⟨hx, hb, hml, hown, hts⟩ (d_X8_must l E Z w205 0 hs61) gX8_gate_X8_must rfl hV_X8_must ⟨Nat.le_of_ble_eq_true rfl, Nat.le_of_ble_eq_true rfl⟩ hK hw (by decide) (by decide) rfl rfl rfl hl.1 rfl (Nat.le_of_ble_eq_true rfl) dX8_gate_250 rfl rfl (fun v63 H locs hp hw => ?_)
              have hF := hF.trans (kb_some hp _)
              refine lv_aload_n hx hb dX8_gate_253 rfl (lv_at hl 0 rfl) ?_
              refine lv_iconst (v := 0) hx hb dX8_gate_254 (by decide) ?_
              refine km_put (ci := 8) (C := RX8) (T := TX8) (N := 23) (t := 30) (i := 0) hx hb hts fi_X8_gate_X8 tyX8 tyX8_ok nmX8 hown hK hw (by decide) (by decide) rfl rfl 6 (by decide) (hts (.fieldLink RX8 82 "WrongWordModel" "taped" "I") ow_X8_gate_82) rfl (by decide +kernel) (Nat.le_of_ble_eq_true rfl) rfl dX8_gate_255 (fun H locs hw => ?_)
              obtain ⟨v64, ev64⟩ : ∃ z, z = up3 v63 30 0 6 0 := ⟨_, rfl⟩
              rw [← ev64] at hw
              have hF := hF.trans (kb_some (congrArg some ev64.symm) _)
              refine lv_aload_n hx hb dX8_gate_258 rfl (lv_at hl 0 rfl) ?_
              have hs65 : g_X8_isWell v64 ≠ none := fun q => hs (hF.trans (kb_n q _))
              refine km_cI (As := []) (rest := []) (n := 0) (q := (RX8, TX8, 23)) (ci := 8) (t := 30) (i := 0) ⟨hx, hb, hml, hown, hts⟩ (d_X8_isWell l E Z v64  hs65) gX8_gate_X8_isWell rfl hV_X8_isWell ⟨Nat.le_of_ble_eq_true rfl, Nat.le_of_ble_eq_true rfl⟩ hK hw (by decide) (by decide) rfl rfl rfl hl.1 rfl (Nat.le_of_ble_eq_true rfl) dX8_gate_259 rfl rfl (fun r66 v67 H locs hp hw => ?_)
              obtain ⟨hp, hzr66⟩ := hp
              obtain ⟨hp, rfl⟩ := hp
              have hF := hF.trans (kb_some hp _)
              refine lv_if_ne (tgt := 273) hx hb dX8_gate_262 (by decide) (fun c68 => ?_) (fun c68 => ?_)
              · skip
                have hF := hF.trans (if_neg c68)
                refine lv_aload_n hx hb dX8_gate_273 rfl (lv_at hl 0 rfl) ?_
                refine km_get (ci := 8) (C := RX8) (T := TX8) (N := 23) (t := 30) (i := 0) hx hb hts fi_X8_gate_X8 hown hK hw (by decide) (by decide) rfl rfl 14 (by decide) (hts (.fieldLink RX8 28 "WrongWordModel" "draft" "[I") ow_X8_gate_28) rfl dX8_gate_274 ?_
                refine lv_iconst (v := 0) hx hb dX8_gate_277 (by decide) ?_
                refine lv_aload_n hx hb dX8_gate_278 rfl (lv_at hl 0 rfl) ?_
                refine km_get (ci := 8) (C := RX8) (T := TX8) (N := 23) (t := 30) (i := 0) hx hb hts fi_X8_gate_X8 hown hK hw (by decide) (by decide) rfl rfl 13 (by decide) (hts (.fieldLink RX8 25 "WrongWordModel" "now" "[I") ow_X8_gate_25) rfl dX8_gate_279 ?_
                refine lv_iconst (v := 0) hx hb dX8_gate_282 (by decide) ?_
                have hs69 : g_X8_copies_37_36 v64 0 0 ≠ none := fun q => hs (hF.trans (kb_n q _))
                refine km_cSV (As := [.ref (Z.1 37 0), .int 0, .ref (Z.1 36 0), .int 0]) (rest := []) (n := 4) ⟨hx, hb, hml, hown, hts⟩ (d_X8_copies_37_36 l E Z v64 0 0 hs69) gX8_gate_X8_copies rfl hV_X8_copies ⟨Nat.le_of_ble_eq_true rfl, Nat.le_of_ble_eq_true rfl⟩ hK hw rfl hl.1 rfl (Nat.le_of_ble_eq_true rfl) dX8_gate_283 rfl rfl (fun v71 H locs hp hw => ?_)
                have hF := hF.trans (kb_some hp _)
                refine lv_aload_n hx hb dX8_gate_286 rfl (lv_at hl 0 rfl) ?_
                refine lv_iconst (v := 0) hx hb dX8_gate_287 (by decide) ?_
                refine km_put (ci := 8) (C := RX8) (T := TX8) (N := 23) (t := 30) (i := 0) hx hb hts fi_X8_gate_X8 tyX8 tyX8_ok nmX8 hown hK hw (by decide) (by decide) rfl rfl 17 (by decide) (hts (.fieldLink RX8 149 "WrongWordModel" "acts" "I") ow_X8_gate_149) rfl (by decide +kernel) (Nat.le_of_ble_eq_true rfl) rfl dX8_gate_288 (fun H locs hw => ?_)
                obtain ⟨v72, ev72⟩ : ∃ z, z = up3 v71 30 0 17 0 := ⟨_, rfl⟩
                rw [← ev72] at hw
                have hF := hF.trans (kb_some (congrArg some ev72.symm) _)
                refine lv_aload_n hx hb dX8_gate_291 rfl (lv_at hl 0 rfl) ?_
                refine km_get (ci := 8) (C := RX8) (T := TX8) (N := 23) (t := 30) (i := 0) hx hb hts fi_X8_gate_X8 hown hK hw (by decide) (by decide) rfl rfl 13 (by decide) (hts (.fieldLink RX8 25 "WrongWordModel" "now" "[I") ow_X8_gate_25) rfl dX8_gate_292 ?_
                refine lv_iconst (v := 3) hx hb dX8_gate_295 (by decide) ?_
                refine km_iald (t := 36) (i := 0) hx hb hK hw (by decide) (by decide) rfl (by unfold vp_in; decide) dX8_gate_296 ?_
                exact hret _ _ _ _ _ _ hw dX8_gate_297 hF
              · skip
                have hF := hF.trans (if_pos c68)
                refine lv_ldc (v := (-1000100)) hx hb hown (hts (.constant RX8 144 (-1000100)) ow_X8_gate_144) dX8_gate_265 ?_
                refine lv_aload_n hx hb dX8_gate_267 rfl (lv_at hl 0 rfl) ?_
                refine km_get (ci := 8) (C := RX8) (T := TX8) (N := 23) (t := 30) (i := 0) hx hb hts fi_X8_gate_X8 hown hK hw (by decide) (by decide) rfl rfl 8 (by decide) (hts (.fieldLink RX8 101 "WrongWordModel" "faultPlace" "I") ow_X8_gate_101) rfl dX8_gate_268 ?_
                refine lv_isub hx hb dX8_gate_271 ?_
                exact hret _ _ _ _ _ _ hw dX8_gate_272 hF
            · skip
              have hF := hF.trans (if_pos c60)
              refine lv_iconst (v := 1) hx hb dX8_gate_245 (by decide) ?_
              refine lv_goto (tgt := 250) hx hb dX8_gate_246 (by decide) ?_
              have hs73 : g_X8_must w205 1 ≠ none := fun q => hs (hF.trans (kb_n q _))
              refine km_cV (As := [.int 1]) (rest := []) (n := 1) (q := (RX8, TX8, 23)) (ci := 8) (t := 30) (i := 0) ⟨hx, hb, hml, hown, hts⟩ (d_X8_must l E Z w205 1 hs73) gX8_gate_X8_must rfl hV_X8_must ⟨Nat.le_of_ble_eq_true rfl, Nat.le_of_ble_eq_true rfl⟩ hK hw (by decide) (by decide) rfl rfl rfl hl.1 rfl (Nat.le_of_ble_eq_true rfl) dX8_gate_250 rfl rfl (fun v75 H locs hp hw => ?_)
              have hF := hF.trans (kb_some hp _)
              refine lv_aload_n hx hb dX8_gate_253 rfl (lv_at hl 0 rfl) ?_
              refine lv_iconst (v := 0) hx hb dX8_gate_254 (by decide) ?_
              refine km_put (ci := 8) (C := RX8) (T := TX8) (N := 23) (t := 30) (i := 0) hx hb hts fi_X8_gate_X8 tyX8 tyX8_ok nmX8 hown hK hw (by decide) (by decide) rfl rfl 6 (by decide) (hts (.fieldLink RX8 82 "WrongWordModel" "taped" "I") ow_X8_gate_82) rfl (by decide +kernel) (Nat.le_of_ble_eq_true rfl) rfl dX8_gate_255 (fun H locs hw => ?_)
              obtain ⟨v76, ev76⟩ : ∃ z, z = up3 v75 30 0 6 0 := ⟨_, rfl⟩
              rw [← ev76] at hw
              have hF := hF.trans (kb_some (congrArg some ev76.symm) _)
              refine lv_aload_n hx hb dX8_gate_258 rfl (lv_at hl 0 rfl) ?_
              have hs77 : g_X8_isWell v76 ≠ none := fun q => hs (hF.trans (kb_n q _))
              refine km_cI (As := []) (rest := []) (n := 0) (q := (RX8, TX8, 23)) (ci := 8) (t := 30) (i := 0) ⟨hx, hb, hml, hown, hts⟩ (d_X8_isWell l E Z v76  hs77) gX8_gate_X8_isWell rfl hV_X8_isWell ⟨Nat.le_of_ble_eq_true rfl, Nat.le_of_ble_eq_true rfl⟩ hK hw (by decide) (by decide) rfl rfl rfl hl.1 rfl (Nat.le_of_ble_eq_true rfl) dX8_gate_259 rfl rfl (fun r78 v79 H locs hp hw => ?_)
              obtain ⟨hp, hzr78⟩ := hp
              obtain ⟨hp, rfl⟩ := hp
              have hF := hF.trans (kb_some hp _)
              refine lv_if_ne (tgt := 273) hx hb dX8_gate_262 (by decide) (fun c80 => ?_) (fun c80 => ?_)
              · skip
                have hF := hF.trans (if_neg c80)
                refine lv_aload_n hx hb dX8_gate_273 rfl (lv_at hl 0 rfl) ?_
                refine km_get (ci := 8) (C := RX8) (T := TX8) (N := 23) (t := 30) (i := 0) hx hb hts fi_X8_gate_X8 hown hK hw (by decide) (by decide) rfl rfl 14 (by decide) (hts (.fieldLink RX8 28 "WrongWordModel" "draft" "[I") ow_X8_gate_28) rfl dX8_gate_274 ?_
                refine lv_iconst (v := 0) hx hb dX8_gate_277 (by decide) ?_
                refine lv_aload_n hx hb dX8_gate_278 rfl (lv_at hl 0 rfl) ?_
                refine km_get (ci := 8) (C := RX8) (T := TX8) (N := 23) (t := 30) (i := 0) hx hb hts fi_X8_gate_X8 hown hK hw (by decide) (by decide) rfl rfl 13 (by decide) (hts (.fieldLink RX8 25 "WrongWordModel" "now" "[I") ow_X8_gate_25) rfl dX8_gate_279 ?_
                refine lv_iconst (v := 0) hx hb dX8_gate_282 (by decide) ?_
                have hs81 : g_X8_copies_37_36 v76 0 0 ≠ none := fun q => hs (hF.trans (kb_n q _))
                refine km_cSV (As := [.ref (Z.1 37 0), .int 0, .ref (Z.1 36 0), .int 0]) (rest := []) (n := 4) ⟨hx, hb, hml, hown, hts⟩ (d_X8_copies_37_36 l E Z v76 0 0 hs81) gX8_gate_X8_copies rfl hV_X8_copies ⟨Nat.le_of_ble_eq_true rfl, Nat.le_of_ble_eq_true rfl⟩ hK hw rfl hl.1 rfl (Nat.le_of_ble_eq_true rfl) dX8_gate_283 rfl rfl (fun v83 H locs hp hw => ?_)
                have hF := hF.trans (kb_some hp _)
                refine lv_aload_n hx hb dX8_gate_286 rfl (lv_at hl 0 rfl) ?_
                refine lv_iconst (v := 0) hx hb dX8_gate_287 (by decide) ?_
                refine km_put (ci := 8) (C := RX8) (T := TX8) (N := 23) (t := 30) (i := 0) hx hb hts fi_X8_gate_X8 tyX8 tyX8_ok nmX8 hown hK hw (by decide) (by decide) rfl rfl 17 (by decide) (hts (.fieldLink RX8 149 "WrongWordModel" "acts" "I") ow_X8_gate_149) rfl (by decide +kernel) (Nat.le_of_ble_eq_true rfl) rfl dX8_gate_288 (fun H locs hw => ?_)
                obtain ⟨v84, ev84⟩ : ∃ z, z = up3 v83 30 0 17 0 := ⟨_, rfl⟩
                rw [← ev84] at hw
                have hF := hF.trans (kb_some (congrArg some ev84.symm) _)
                refine lv_aload_n hx hb dX8_gate_291 rfl (lv_at hl 0 rfl) ?_
                refine km_get (ci := 8) (C := RX8) (T := TX8) (N := 23) (t := 30) (i := 0) hx hb hts fi_X8_gate_X8 hown hK hw (by decide) (by decide) rfl rfl 13 (by decide) (hts (.fieldLink RX8 25 "WrongWordModel" "now" "[I") ow_X8_gate_25) rfl dX8_gate_292 ?_
                refine lv_iconst (v := 3) hx hb dX8_gate_295 (by decide) ?_
                refine km_iald (t := 36) (i := 0) hx hb hK hw (by decide) (by decide) rfl (by unfold vp_in; decide) dX8_gate_296 ?_
                exact hret _ _ _ _ _ _ hw dX8_gate_297 hF
              · skip
                have hF := hF.trans (if_pos c80)
                refine lv_ldc (v := (-1000100)) hx hb hown (hts (.constant RX8 144 (-1000100)) ow_X8_gate_144) dX8_gate_265 ?_
                refine lv_aload_n hx hb dX8_gate_267 rfl (lv_at hl 0 rfl) ?_
                refine km_get (ci := 8) (C := RX8) (T := TX8) (N := 23) (t := 30) (i := 0) hx hb hts fi_X8_gate_X8 hown hK hw (by decide) (by decide) rfl rfl 8 (by decide) (hts (.fieldLink RX8 101 "WrongWordModel" "faultPlace" "I") ow_X8_gate_101) rfl dX8_gate_268 ?_
                refine lv_isub hx hb dX8_gate_271 ?_
                exact hret _ _ _ _ _ _ hw dX8_gate_272 hF
          · skip
            have hF := hF.trans (if_neg c59)
            refine lv_aload_n hx hb dX8_gate_230 rfl (lv_at hl 0 rfl) ?_
            have hs85 : g_X8_readsGuard w205 ≠ none := fun q => hs (hF.trans (kb_n q _))
            refine km_cV (As := []) (rest := []) (n := 0) (q := (RX8, TX8, 23)) (ci := 8) (t := 30) (i := 0) ⟨hx, hb, hml, hown, hts⟩ (d_X8_readsGuard l E Z w205  hs85) gX8_gate_X8_readsGuard rfl hV_X8_readsGuard ⟨Nat.le_of_ble_eq_true rfl, Nat.le_of_ble_eq_true rfl⟩ hK hw (by decide) (by decide) rfl rfl rfl hl.1 rfl (Nat.le_of_ble_eq_true rfl) dX8_gate_231 rfl rfl (fun v87 H locs hp hw => ?_)
            have hF := hF.trans (kb_some hp _)
            refine lv_goto (tgt := 205) hx hb dX8_gate_234 (by decide) ?_
            have hl := lv_sub (l' := [(0, .ref (Z.1 30 0)), (1, .int x1_205)]) hl [0, 1] rfl
            exact ih205 v87 x1_205 _ _ _ hF hw hl
  have loop147 : ∀ (n147 : Nat) (w147 : Mm) (x1_147 : Int32) (H : Heap) (locs : List Loc) (ls : Array Slot), g_X8_gate v = g_X8_gate_L147   n147 w147 x1_147 → km_w E A s.heap [] Z cntM w147 H locs → lv_has ls 2 [(0, .ref (Z.1 30 0)), (1, .int x1_147)] → W p l e rmX8_gate s m [.ref (Z.1 30 0)].toArray below meth c H locs 0 0 Q (F0 m 147 ls []) := by
    intro n147
    induction n147 with
    | zero => intro w147 x1_147 H locs ls hF hw hl; exact absurd (show g_X8_gate v = none from hF) hs
    | succ n147 ih147 =>
      intro w147 x1_147 H locs ls hF hw hl
      have hF := hF.trans (b_X8_gate_L147.eq_1  (g_X8_gate_L147   n147)  w147 x1_147)
      refine lv_aload_n hx hb dX8_gate_147 rfl (lv_at hl 0 rfl) ?_
      have hs88 : g_X8_isWell w147 ≠ none := fun q => hs (hF.trans (kb_n q _))
      refine km_cI (As := []) (rest := []) (n := 0) (q := (RX8, TX8, 23)) (ci := 8) (t := 30) (i := 0) ⟨hx, hb, hml, hown, hts⟩ (d_X8_isWell l E Z w147  hs88) gX8_gate_X8_isWell rfl hV_X8_isWell ⟨Nat.le_of_ble_eq_true rfl, Nat.le_of_ble_eq_true rfl⟩ hK hw (by decide) (by decide) rfl rfl rfl hl.1 rfl (Nat.le_of_ble_eq_true rfl) dX8_gate_148 rfl rfl (fun r89 v90 H locs hp hw => ?_)
      obtain ⟨hp, hzr89⟩ := hp
      obtain ⟨hp, rfl⟩ := hp
      have hF := hF.trans (kb_some hp _)
      refine lv_if_eq (tgt := 178) hx hb dX8_gate_151 (by decide) (fun c91 => ?_) (fun c91 => ?_)
      · skip
        have hF := hF.trans (if_pos c91)
        refine lv_aload_n hx hb dX8_gate_178 rfl (lv_at hl 0 rfl) ?_
        refine lv_aload_n hx hb dX8_gate_179 rfl (lv_at hl 0 rfl) ?_
        refine km_get (ci := 8) (C := RX8) (T := TX8) (N := 23) (t := 30) (i := 0) hx hb hts fi_X8_gate_X8 hown hK hw (by decide) (by decide) rfl rfl 11 (by decide) (hts (.fieldLink RX8 98 "WrongWordModel" "token" "I") ow_X8_gate_98) rfl dX8_gate_180 ?_
        refine lv_iconst (v := 1) hx hb dX8_gate_183 (by decide) ?_
        refine lv_icmp_ne (tgt := 201) hx hb dX8_gate_184 (by decide) (fun c92 => ?_) (fun c92 => ?_)
        · skip
          have hF := hF.trans (if_neg c92)
          refine lv_iconst (v := 0) hx hb dX8_gate_201 (by decide) ?_
          have hs93 : g_X8_must w147 0 ≠ none := fun q => hs (hF.trans (kb_n q _))
          refine km_cV (As := [.int 0]) (rest := []) (n := 1) (q := (RX8, TX8, 23)) (ci := 8) (t := 30) (i := 0) ⟨hx, hb, hml, hown, hts⟩ (d_X8_must l E Z w147 0 hs93) gX8_gate_X8_must rfl hV_X8_must ⟨Nat.le_of_ble_eq_true rfl, Nat.le_of_ble_eq_true rfl⟩ hK hw (by decide) (by decide) rfl rfl rfl hl.1 rfl (Nat.le_of_ble_eq_true rfl) dX8_gate_202 rfl rfl (fun v95 H locs hp hw => ?_)
          have hF := hF.trans (kb_some hp _)
          have hl := lv_sub (l' := [(0, .ref (Z.1 30 0)), (1, .int x1_147)]) hl [0, 1] rfl
          exact loop205 2000 v95 x1_147 _ _ _ hF hw hl
        · skip
          have hF := hF.trans (if_pos c92)
          refine lv_aload_n hx hb dX8_gate_187 rfl (lv_at hl 0 rfl) ?_
          refine km_get (ci := 8) (C := RX8) (T := TX8) (N := 23) (t := 30) (i := 0) hx hb hts fi_X8_gate_X8 hown hK hw (by decide) (by decide) rfl rfl 12 (by decide) (hts (.fieldLink RX8 95 "WrongWordModel" "value" "I") ow_X8_gate_95) rfl dX8_gate_188 ?_
          have hs96 : g_X8_kindOf w147 (w147 30 0 12) ≠ none := fun q => hs (hF.trans (kb_n q _))
          refine km_cS (As := [.int (w147 30 0 12)]) (rest := [.ref (Z.1 30 0)]) (n := 1) ⟨hx, hb, hml, hown, hts⟩ (d_X8_kindOf l E Z w147 (w147 30 0 12) hs96) gX8_gate_X8_kindOf rfl hV_X8_kindOf ⟨Nat.le_of_ble_eq_true rfl, Nat.le_of_ble_eq_true rfl⟩ hK hw rfl hl.1 rfl (Nat.le_of_ble_eq_true rfl) dX8_gate_191 rfl rfl (fun r97 v98 H locs hp hw => ?_)
          obtain ⟨hp, rfl⟩ := hp
          have hF := hF.trans (kb_some hp _)
          refine lv_if_le (tgt := 201) hx hb dX8_gate_194 (by decide) (fun c99 => ?_) (fun c99 => ?_)
          · skip
            have hF := hF.trans (if_pos c99)
            refine lv_iconst (v := 0) hx hb dX8_gate_201 (by decide) ?_
            have hs100 : g_X8_must w147 0 ≠ none := fun q => hs (hF.trans (kb_n q _))
            refine km_cV (As := [.int 0]) (rest := []) (n := 1) (q := (RX8, TX8, 23)) (ci := 8) (t := 30) (i := 0) ⟨hx, hb, hml, hown, hts⟩ (d_X8_must l E Z w147 0 hs100) gX8_gate_X8_must rfl hV_X8_must ⟨Nat.le_of_ble_eq_true rfl, Nat.le_of_ble_eq_true rfl⟩ hK hw (by decide) (by decide) rfl rfl rfl hl.1 rfl (Nat.le_of_ble_eq_true rfl) dX8_gate_202 rfl rfl (fun v102 H locs hp hw => ?_)
            have hF := hF.trans (kb_some hp _)
            have hl := lv_sub (l' := [(0, .ref (Z.1 30 0)), (1, .int x1_147)]) hl [0, 1] rfl
            exact loop205 2000 v102 x1_147 _ _ _ hF hw hl
          · skip
            have hF := hF.trans (if_neg c99)
            refine lv_iconst (v := 1) hx hb dX8_gate_197 (by decide) ?_
            refine lv_goto (tgt := 202) hx hb dX8_gate_198 (by decide) ?_
            have hs103 : g_X8_must w147 1 ≠ none := fun q => hs (hF.trans (kb_n q _))
            refine km_cV (As := [.int 1]) (rest := []) (n := 1) (q := (RX8, TX8, 23)) (ci := 8) (t := 30) (i := 0) ⟨hx, hb, hml, hown, hts⟩ (d_X8_must l E Z w147 1 hs103) gX8_gate_X8_must rfl hV_X8_must ⟨Nat.le_of_ble_eq_true rfl, Nat.le_of_ble_eq_true rfl⟩ hK hw (by decide) (by decide) rfl rfl rfl hl.1 rfl (Nat.le_of_ble_eq_true rfl) dX8_gate_202 rfl rfl (fun v105 H locs hp hw => ?_)
            have hF := hF.trans (kb_some hp _)
            have hl := lv_sub (l' := [(0, .ref (Z.1 30 0)), (1, .int x1_147)]) hl [0, 1] rfl
            exact loop205 2000 v105 x1_147 _ _ _ hF hw hl
      · skip
        have hF := hF.trans (if_neg c91)
        refine lv_aload_n hx hb dX8_gate_154 rfl (lv_at hl 0 rfl) ?_
        refine km_get (ci := 8) (C := RX8) (T := TX8) (N := 23) (t := 30) (i := 0) hx hb hts fi_X8_gate_X8 hown hK hw (by decide) (by decide) rfl rfl 11 (by decide) (hts (.fieldLink RX8 98 "WrongWordModel" "token" "I") ow_X8_gate_98) rfl dX8_gate_155 ?_
        refine lv_iconst (v := 1) hx hb dX8_gate_158 (by decide) ?_
        refine lv_icmp_ne (tgt := 178) hx hb dX8_gate_159 (by decide) (fun c106 => ?_) (fun c106 => ?_)
        · skip
          have hF := hF.trans (if_neg c106)
          refine lv_aload_n hx hb dX8_gate_178 rfl (lv_at hl 0 rfl) ?_
          refine lv_aload_n hx hb dX8_gate_179 rfl (lv_at hl 0 rfl) ?_
          refine km_get (ci := 8) (C := RX8) (T := TX8) (N := 23) (t := 30) (i := 0) hx hb hts fi_X8_gate_X8 hown hK hw (by decide) (by decide) rfl rfl 11 (by decide) (hts (.fieldLink RX8 98 "WrongWordModel" "token" "I") ow_X8_gate_98) rfl dX8_gate_180 ?_
          refine lv_iconst (v := 1) hx hb dX8_gate_183 (by decide) ?_
          refine lv_icmp_ne (tgt := 201) hx hb dX8_gate_184 (by decide) (fun c107 => ?_) (fun c107 => ?_)
          · skip
            have hF := hF.trans (if_neg c107)
            refine lv_iconst (v := 0) hx hb dX8_gate_201 (by decide) ?_
            have hs108 : g_X8_must w147 0 ≠ none := fun q => hs (hF.trans (kb_n q _))
            refine km_cV (As := [.int 0]) (rest := []) (n := 1) (q := (RX8, TX8, 23)) (ci := 8) (t := 30) (i := 0) ⟨hx, hb, hml, hown, hts⟩ (d_X8_must l E Z w147 0 hs108) gX8_gate_X8_must rfl hV_X8_must ⟨Nat.le_of_ble_eq_true rfl, Nat.le_of_ble_eq_true rfl⟩ hK hw (by decide) (by decide) rfl rfl rfl hl.1 rfl (Nat.le_of_ble_eq_true rfl) dX8_gate_202 rfl rfl (fun v110 H locs hp hw => ?_)
            have hF := hF.trans (kb_some hp _)
            have hl := lv_sub (l' := [(0, .ref (Z.1 30 0)), (1, .int x1_147)]) hl [0, 1] rfl
            exact loop205 2000 v110 x1_147 _ _ _ hF hw hl
          · skip
            have hF := hF.trans (if_pos c107)
            refine lv_aload_n hx hb dX8_gate_187 rfl (lv_at hl 0 rfl) ?_
            refine km_get (ci := 8) (C := RX8) (T := TX8) (N := 23) (t := 30) (i := 0) hx hb hts fi_X8_gate_X8 hown hK hw (by decide) (by decide) rfl rfl 12 (by decide) (hts (.fieldLink RX8 95 "WrongWordModel" "value" "I") ow_X8_gate_95) rfl dX8_gate_188 ?_
            have hs111 : g_X8_kindOf w147 (w147 30 0 12) ≠ none := fun q => hs (hF.trans (kb_n q _))
            refine km_cS (As := [.int (w147 30 0 12)]) (rest := [.ref (Z.1 30 0)]) (n := 1) ⟨hx, hb, hml, hown, hts⟩ (d_X8_kindOf l E Z w147 (w147 30 0 12) hs111) gX8_gate_X8_kindOf rfl hV_X8_kindOf ⟨Nat.le_of_ble_eq_true rfl, Nat.le_of_ble_eq_true rfl⟩ hK hw rfl hl.1 rfl (Nat.le_of_ble_eq_true rfl) dX8_gate_191 rfl rfl (fun r112 v113 H locs hp hw => ?_)
            obtain ⟨hp, rfl⟩ := hp
            have hF := hF.trans (kb_some hp _)
            refine lv_if_le (tgt := 201) hx hb dX8_gate_194 (by decide) (fun c114 => ?_) (fun c114 => ?_)
            · skip
              have hF := hF.trans (if_pos c114)
              refine lv_iconst (v := 0) hx hb dX8_gate_201 (by decide) ?_
              have hs115 : g_X8_must w147 0 ≠ none := fun q => hs (hF.trans (kb_n q _))
              refine km_cV (As := [.int 0]) (rest := []) (n := 1) (q := (RX8, TX8, 23)) (ci := 8) (t := 30) (i := 0) ⟨hx, hb, hml, hown, hts⟩ (d_X8_must l E Z w147 0 hs115) gX8_gate_X8_must rfl hV_X8_must ⟨Nat.le_of_ble_eq_true rfl, Nat.le_of_ble_eq_true rfl⟩ hK hw (by decide) (by decide) rfl rfl rfl hl.1 rfl (Nat.le_of_ble_eq_true rfl) dX8_gate_202 rfl rfl (fun v117 H locs hp hw => ?_)
              have hF := hF.trans (kb_some hp _)
              have hl := lv_sub (l' := [(0, .ref (Z.1 30 0)), (1, .int x1_147)]) hl [0, 1] rfl
              exact loop205 2000 v117 x1_147 _ _ _ hF hw hl
            · skip
              have hF := hF.trans (if_neg c114)
              refine lv_iconst (v := 1) hx hb dX8_gate_197 (by decide) ?_
              refine lv_goto (tgt := 202) hx hb dX8_gate_198 (by decide) ?_
              have hs118 : g_X8_must w147 1 ≠ none := fun q => hs (hF.trans (kb_n q _))
              refine km_cV (As := [.int 1]) (rest := []) (n := 1) (q := (RX8, TX8, 23)) (ci := 8) (t := 30) (i := 0) ⟨hx, hb, hml, hown, hts⟩ (d_X8_must l E Z w147 1 hs118) gX8_gate_X8_must rfl hV_X8_must ⟨Nat.le_of_ble_eq_true rfl, Nat.le_of_ble_eq_true rfl⟩ hK hw (by decide) (by decide) rfl rfl rfl hl.1 rfl (Nat.le_of_ble_eq_true rfl) dX8_gate_202 rfl rfl (fun v120 H locs hp hw => ?_)
              have hF := hF.trans (kb_some hp _)
              have hl := lv_sub (l' := [(0, .ref (Z.1 30 0)), (1, .int x1_147)]) hl [0, 1] rfl
              exact loop205 2000 v120 x1_147 _ _ _ hF hw hl
        · skip
          have hF := hF.trans (if_pos c106)
          refine lv_aload_n hx hb dX8_gate_162 rfl (lv_at hl 0 rfl) ?_
          refine km_get (ci := 8) (C := RX8) (T := TX8) (N := 23) (t := 30) (i := 0) hx hb hts fi_X8_gate_X8 hown hK hw (by decide) (by decide) rfl rfl 12 (by decide) (hts (.fieldLink RX8 95 "WrongWordModel" "value" "I") ow_X8_gate_95) rfl dX8_gate_163 ?_
          refine lv_bipush (v := 119) hx hb dX8_gate_166 (by decide) ?_
          refine lv_icmp_ne (tgt := 178) hx hb dX8_gate_168 (by decide) (fun c121 => ?_) (fun c121 => ?_)
          · skip
            have hF := hF.trans (if_neg c121)
            refine lv_aload_n hx hb dX8_gate_178 rfl (lv_at hl 0 rfl) ?_
            refine lv_aload_n hx hb dX8_gate_179 rfl (lv_at hl 0 rfl) ?_
            refine km_get (ci := 8) (C := RX8) (T := TX8) (N := 23) (t := 30) (i := 0) hx hb hts fi_X8_gate_X8 hown hK hw (by decide) (by decide) rfl rfl 11 (by decide) (hts (.fieldLink RX8 98 "WrongWordModel" "token" "I") ow_X8_gate_98) rfl dX8_gate_180 ?_
            refine lv_iconst (v := 1) hx hb dX8_gate_183 (by decide) ?_
            refine lv_icmp_ne (tgt := 201) hx hb dX8_gate_184 (by decide) (fun c122 => ?_) (fun c122 => ?_)
            · skip
              have hF := hF.trans (if_neg c122)
              refine lv_iconst (v := 0) hx hb dX8_gate_201 (by decide) ?_
              have hs123 : g_X8_must w147 0 ≠ none := fun q => hs (hF.trans (kb_n q _))
              refine km_cV (As := [.int 0]) (rest := []) (n := 1) (q := (RX8, TX8, 23)) (ci := 8) (t := 30) (i := 0) ⟨hx, hb, hml, hown, hts⟩ (d_X8_must l E Z w147 0 hs123) gX8_gate_X8_must rfl hV_X8_must ⟨Nat.le_of_ble_eq_true rfl, Nat.le_of_ble_eq_true rfl⟩ hK hw (by decide) (by decide) rfl rfl rfl hl.1 rfl (Nat.le_of_ble_eq_true rfl) dX8_gate_202 rfl rfl (fun v125 H locs hp hw => ?_)
              have hF := hF.trans (kb_some hp _)
              have hl := lv_sub (l' := [(0, .ref (Z.1 30 0)), (1, .int x1_147)]) hl [0, 1] rfl
              exact loop205 2000 v125 x1_147 _ _ _ hF hw hl
            · skip
              have hF := hF.trans (if_pos c122)
              refine lv_aload_n hx hb dX8_gate_187 rfl (lv_at hl 0 rfl) ?_
              refine km_get (ci := 8) (C := RX8) (T := TX8) (N := 23) (t := 30) (i := 0) hx hb hts fi_X8_gate_X8 hown hK hw (by decide) (by decide) rfl rfl 12 (by decide) (hts (.fieldLink RX8 95 "WrongWordModel" "value" "I") ow_X8_gate_95) rfl dX8_gate_188 ?_
              have hs126 : g_X8_kindOf w147 (w147 30 0 12) ≠ none := fun q => hs (hF.trans (kb_n q _))
              refine km_cS (As := [.int (w147 30 0 12)]) (rest := [.ref (Z.1 30 0)]) (n := 1) ⟨hx, hb, hml, hown, hts⟩ (d_X8_kindOf l E Z w147 (w147 30 0 12) hs126) gX8_gate_X8_kindOf rfl hV_X8_kindOf ⟨Nat.le_of_ble_eq_true rfl, Nat.le_of_ble_eq_true rfl⟩ hK hw rfl hl.1 rfl (Nat.le_of_ble_eq_true rfl) dX8_gate_191 rfl rfl (fun r127 v128 H locs hp hw => ?_)
              obtain ⟨hp, rfl⟩ := hp
              have hF := hF.trans (kb_some hp _)
              refine lv_if_le (tgt := 201) hx hb dX8_gate_194 (by decide) (fun c129 => ?_) (fun c129 => ?_)
              · skip
                have hF := hF.trans (if_pos c129)
                refine lv_iconst (v := 0) hx hb dX8_gate_201 (by decide) ?_
                have hs130 : g_X8_must w147 0 ≠ none := fun q => hs (hF.trans (kb_n q _))
                refine km_cV (As := [.int 0]) (rest := []) (n := 1) (q := (RX8, TX8, 23)) (ci := 8) (t := 30) (i := 0) ⟨hx, hb, hml, hown, hts⟩ (d_X8_must l E Z w147 0 hs130) gX8_gate_X8_must rfl hV_X8_must ⟨Nat.le_of_ble_eq_true rfl, Nat.le_of_ble_eq_true rfl⟩ hK hw (by decide) (by decide) rfl rfl rfl hl.1 rfl (Nat.le_of_ble_eq_true rfl) dX8_gate_202 rfl rfl (fun v132 H locs hp hw => ?_)
                have hF := hF.trans (kb_some hp _)
                have hl := lv_sub (l' := [(0, .ref (Z.1 30 0)), (1, .int x1_147)]) hl [0, 1] rfl
                exact loop205 2000 v132 x1_147 _ _ _ hF hw hl
              · skip
                have hF := hF.trans (if_neg c129)
                refine lv_iconst (v := 1) hx hb dX8_gate_197 (by decide) ?_
                refine lv_goto (tgt := 202) hx hb dX8_gate_198 (by decide) ?_
                have hs133 : g_X8_must w147 1 ≠ none := fun q => hs (hF.trans (kb_n q _))
                refine km_cV (As := [.int 1]) (rest := []) (n := 1) (q := (RX8, TX8, 23)) (ci := 8) (t := 30) (i := 0) ⟨hx, hb, hml, hown, hts⟩ (d_X8_must l E Z w147 1 hs133) gX8_gate_X8_must rfl hV_X8_must ⟨Nat.le_of_ble_eq_true rfl, Nat.le_of_ble_eq_true rfl⟩ hK hw (by decide) (by decide) rfl rfl rfl hl.1 rfl (Nat.le_of_ble_eq_true rfl) dX8_gate_202 rfl rfl (fun v135 H locs hp hw => ?_)
                have hF := hF.trans (kb_some hp _)
                have hl := lv_sub (l' := [(0, .ref (Z.1 30 0)), (1, .int x1_147)]) hl [0, 1] rfl
                exact loop205 2000 v135 x1_147 _ _ _ hF hw hl
          · skip
            have hF := hF.trans (if_pos c121)
            refine lv_aload_n hx hb dX8_gate_171 rfl (lv_at hl 0 rfl) ?_
            have hs136 : g_X8_readsWord w147 ≠ none := fun q => hs (hF.trans (kb_n q _))
            refine km_cV (As := []) (rest := []) (n := 0) (q := (RX8, TX8, 23)) (ci := 8) (t := 30) (i := 0) ⟨hx, hb, hml, hown, hts⟩ (d_X8_readsWord l E Z w147  hs136) gX8_gate_X8_readsWord rfl hV_X8_readsWord ⟨Nat.le_of_ble_eq_true rfl, Nat.le_of_ble_eq_true rfl⟩ hK hw (by decide) (by decide) rfl rfl rfl hl.1 rfl (Nat.le_of_ble_eq_true rfl) dX8_gate_172 rfl rfl (fun v138 H locs hp hw => ?_)
            have hF := hF.trans (kb_some hp _)
            refine lv_goto (tgt := 147) hx hb dX8_gate_175 (by decide) ?_
            have hl := lv_sub (l' := [(0, .ref (Z.1 30 0)), (1, .int x1_147)]) hl [0, 1] rfl
            exact ih147 v138 x1_147 _ _ _ hF hw hl
  have loop2 : ∀ (n2 : Nat) (w2 : Mm) (x1_2 : Int32) (H : Heap) (locs : List Loc) (ls : Array Slot), g_X8_gate v = g_X8_gate_L2   n2 w2 x1_2 → km_w E A s.heap [] Z cntM w2 H locs → lv_has ls 2 [(0, .ref (Z.1 30 0)), (1, .int x1_2)] → W p l e rmX8_gate s m [.ref (Z.1 30 0)].toArray below meth c H locs 0 0 Q (F0 m 2 ls []) := by
    intro n2
    induction n2 with
    | zero => intro w2 x1_2 H locs ls hF hw hl; exact absurd (show g_X8_gate v = none from hF) hs
    | succ n2 ih2 =>
      intro w2 x1_2 H locs ls hF hw hl
      have hF := hF.trans (b_X8_gate_L2.eq_1  (g_X8_gate_L2   n2)  w2 x1_2)
      refine lv_iload_n hx hb dX8_gate_2 rfl (lv_at hl 1 rfl) ?_
      refine lv_bipush (v := 65) hx hb dX8_gate_3 (by decide) ?_
      refine lv_icmp_ge (tgt := 21) hx hb dX8_gate_5 (by decide) (fun c139 => ?_) (fun c139 => ?_)
      · skip
        have hF := hF.trans (if_pos c139)
        refine lv_aload_n hx hb dX8_gate_21 rfl (lv_at hl 0 rfl) ?_
        refine lv_iconst (v := 0) hx hb dX8_gate_22 (by decide) ?_
        refine km_put (ci := 8) (C := RX8) (T := TX8) (N := 23) (t := 30) (i := 0) hx hb hts fi_X8_gate_X8 tyX8 tyX8_ok nmX8 hown hK hw (by decide) (by decide) rfl rfl 9 (by decide) (hts (.fieldLink RX8 86 "WrongWordModel" "at" "I") ow_X8_gate_86) rfl (by decide +kernel) (Nat.le_of_ble_eq_true rfl) rfl dX8_gate_23 (fun H locs hw => ?_)
        obtain ⟨v140, ev140⟩ : ∃ z, z = up3 w2 30 0 9 0 := ⟨_, rfl⟩
        rw [← ev140] at hw
        have hF := hF.trans (kb_some (congrArg some ev140.symm) _)
        refine lv_aload_n hx hb dX8_gate_26 rfl (lv_at hl 0 rfl) ?_
        refine lv_iconst (v := (-1)) hx hb dX8_gate_27 (by decide) ?_
        refine km_put (ci := 8) (C := RX8) (T := TX8) (N := 23) (t := 30) (i := 0) hx hb hts fi_X8_gate_X8 tyX8 tyX8_ok nmX8 hown hK hw (by decide) (by decide) rfl rfl 8 (by decide) (hts (.fieldLink RX8 101 "WrongWordModel" "faultPlace" "I") ow_X8_gate_101) rfl (by decide +kernel) (Nat.le_of_ble_eq_true rfl) rfl dX8_gate_28 (fun H locs hw => ?_)
        obtain ⟨v141, ev141⟩ : ∃ z, z = up3 v140 30 0 8 ((-1)) := ⟨_, rfl⟩
        rw [← ev141] at hw
        have hF := hF.trans (kb_some (congrArg some ev141.symm) _)
        refine lv_aload_n hx hb dX8_gate_31 rfl (lv_at hl 0 rfl) ?_
        have hs142 : g_X8_advances v141 ≠ none := fun q => hs (hF.trans (kb_n q _))
        refine km_cV (As := []) (rest := []) (n := 0) (q := (RX8, TX8, 23)) (ci := 8) (t := 30) (i := 0) ⟨hx, hb, hml, hown, hts⟩ (d_X8_advances l E Z v141  hs142) gX8_gate_X8_advances rfl hV_X8_advances ⟨Nat.le_of_ble_eq_true rfl, Nat.le_of_ble_eq_true rfl⟩ hK hw (by decide) (by decide) rfl rfl rfl hl.1 rfl (Nat.le_of_ble_eq_true rfl) dX8_gate_32 rfl rfl (fun v144 H locs hp hw => ?_)
        have hF := hF.trans (kb_some hp _)
        refine lv_aload_n hx hb dX8_gate_35 rfl (lv_at hl 0 rfl) ?_
        refine lv_aload_n hx hb dX8_gate_36 rfl (lv_at hl 0 rfl) ?_
        refine km_get (ci := 8) (C := RX8) (T := TX8) (N := 23) (t := 30) (i := 0) hx hb hts fi_X8_gate_X8 hown hK hw (by decide) (by decide) rfl rfl 11 (by decide) (hts (.fieldLink RX8 98 "WrongWordModel" "token" "I") ow_X8_gate_98) rfl dX8_gate_37 ?_
        refine lv_iconst (v := 1) hx hb dX8_gate_40 (by decide) ?_
        refine lv_icmp_ne (tgt := 57) hx hb dX8_gate_41 (by decide) (fun c145 => ?_) (fun c145 => ?_)
        · skip
          have hF := hF.trans (if_neg c145)
          refine lv_iconst (v := 0) hx hb dX8_gate_57 (by decide) ?_
          refine lv_iconst (v := 1) hx hb dX8_gate_58 (by decide) ?_
          have hs146 : g_X8_takes v144 0 1 ≠ none := fun q => hs (hF.trans (kb2_n q _))
          refine km_cI (As := [.int 0, .int 1]) (rest := []) (n := 2) (q := (RX8, TX8, 23)) (ci := 8) (t := 30) (i := 0) ⟨hx, hb, hml, hown, hts⟩ (d_X8_takes l E Z v144 0 1 hs146) gX8_gate_X8_takes rfl hV_X8_takes ⟨Nat.le_of_ble_eq_true rfl, Nat.le_of_ble_eq_true rfl⟩ hK hw (by decide) (by decide) rfl rfl rfl hl.1 rfl (Nat.le_of_ble_eq_true rfl) dX8_gate_59 rfl rfl (fun r147 v148 H locs hp hw => ?_)
          have hF := hF.trans (kb2_some hp _)
          refine lv_pop hx hb dX8_gate_62 rfl ?_
          refine lv_aload_n hx hb dX8_gate_63 rfl (lv_at hl 0 rfl) ?_
          refine km_get (ci := 8) (C := RX8) (T := TX8) (N := 23) (t := 30) (i := 0) hx hb hts fi_X8_gate_X8 hown hK hw (by decide) (by decide) rfl rfl 14 (by decide) (hts (.fieldLink RX8 28 "WrongWordModel" "draft" "[I") ow_X8_gate_28) rfl dX8_gate_64 ?_
          refine lv_iconst (v := 0) hx hb dX8_gate_67 (by decide) ?_
          refine lv_aload_n hx hb dX8_gate_68 rfl (lv_at hl 0 rfl) ?_
          refine lv_iconst (v := 0) hx hb dX8_gate_69 (by decide) ?_
          refine lv_bipush (v := 9) hx hb dX8_gate_70 (by decide) ?_
          have hs149 : g_X8_figure v148 0 9 ≠ none := fun q => hs (hF.trans (kb2_n q _))
          refine km_cI (As := [.int 0, .int 9]) (rest := [.int 0, .ref (Z.1 37 0)]) (n := 2) (q := (RX8, TX8, 23)) (ci := 8) (t := 30) (i := 0) ⟨hx, hb, hml, hown, hts⟩ (d_X8_figure l E Z v148 0 9 hs149) gX8_gate_X8_figure rfl hV_X8_figure ⟨Nat.le_of_ble_eq_true rfl, Nat.le_of_ble_eq_true rfl⟩ hK hw (by decide) (by decide) rfl rfl rfl hl.1 rfl (Nat.le_of_ble_eq_true rfl) dX8_gate_72 rfl rfl (fun r150 v151 H locs hp hw => ?_)
          have hF := hF.trans (kb2_some hp _)
          refine km_iast (t := 37) (i := 0) (n := 65) hx hb hK hw (by decide) (by decide) (fun _ => rfl) (by unfold vp_in; decide) dX8_gate_75 (fun H locs hw => ?_)
          obtain ⟨v152, ev152⟩ : ∃ z, z = up3 v151 37 0 (Int32.toNatClampNeg 0) r150 := ⟨_, rfl⟩
          rw [← ev152] at hw
          have hF := hF.trans (kb_some (congrArg some ev152.symm) _)
          refine lv_aload_n hx hb dX8_gate_76 rfl (lv_at hl 0 rfl) ?_
          refine km_get (ci := 8) (C := RX8) (T := TX8) (N := 23) (t := 30) (i := 0) hx hb hts fi_X8_gate_X8 hown hK hw (by decide) (by decide) rfl rfl 14 (by decide) (hts (.fieldLink RX8 28 "WrongWordModel" "draft" "[I") ow_X8_gate_28) rfl dX8_gate_77 ?_
          refine lv_iconst (v := 1) hx hb dX8_gate_80 (by decide) ?_
          refine lv_aload_n hx hb dX8_gate_81 rfl (lv_at hl 0 rfl) ?_
          refine lv_iconst (v := 0) hx hb dX8_gate_82 (by decide) ?_
          refine lv_bipush (v := 9) hx hb dX8_gate_83 (by decide) ?_
          have hs153 : g_X8_follows v152 0 9 ≠ none := fun q => hs (hF.trans (kb2_n q _))
          refine km_cI (As := [.int 0, .int 9]) (rest := [.int 1, .ref (Z.1 37 0)]) (n := 2) (q := (RX8, TX8, 23)) (ci := 8) (t := 30) (i := 0) ⟨hx, hb, hml, hown, hts⟩ (d_X8_follows l E Z v152 0 9 hs153) gX8_gate_X8_follows rfl hV_X8_follows ⟨Nat.le_of_ble_eq_true rfl, Nat.le_of_ble_eq_true rfl⟩ hK hw (by decide) (by decide) rfl rfl rfl hl.1 rfl (Nat.le_of_ble_eq_true rfl) dX8_gate_85 rfl rfl (fun r154 v155 H locs hp hw => ?_)
          have hF := hF.trans (kb2_some hp _)
          refine km_iast (t := 37) (i := 0) (n := 65) hx hb hK hw (by decide) (by decide) (fun _ => rfl) (by unfold vp_in; decide) dX8_gate_88 (fun H locs hw => ?_)
          obtain ⟨v156, ev156⟩ : ∃ z, z = up3 v155 37 0 (Int32.toNatClampNeg 1) r154 := ⟨_, rfl⟩
          rw [← ev156] at hw
          have hF := hF.trans (kb_some (congrArg some ev156.symm) _)
          refine lv_aload_n hx hb dX8_gate_89 rfl (lv_at hl 0 rfl) ?_
          refine km_get (ci := 8) (C := RX8) (T := TX8) (N := 23) (t := 30) (i := 0) hx hb hts fi_X8_gate_X8 hown hK hw (by decide) (by decide) rfl rfl 14 (by decide) (hts (.fieldLink RX8 28 "WrongWordModel" "draft" "[I") ow_X8_gate_28) rfl dX8_gate_90 ?_
          refine lv_iconst (v := 2) hx hb dX8_gate_93 (by decide) ?_
          refine lv_aload_n hx hb dX8_gate_94 rfl (lv_at hl 0 rfl) ?_
          refine lv_iconst (v := 0) hx hb dX8_gate_95 (by decide) ?_
          refine lv_bipush (v := 6) hx hb dX8_gate_96 (by decide) ?_
          have hs157 : g_X8_follows v156 0 6 ≠ none := fun q => hs (hF.trans (kb2_n q _))
          refine km_cI (As := [.int 0, .int 6]) (rest := [.int 2, .ref (Z.1 37 0)]) (n := 2) (q := (RX8, TX8, 23)) (ci := 8) (t := 30) (i := 0) ⟨hx, hb, hml, hown, hts⟩ (d_X8_follows l E Z v156 0 6 hs157) gX8_gate_X8_follows rfl hV_X8_follows ⟨Nat.le_of_ble_eq_true rfl, Nat.le_of_ble_eq_true rfl⟩ hK hw (by decide) (by decide) rfl rfl rfl hl.1 rfl (Nat.le_of_ble_eq_true rfl) dX8_gate_98 rfl rfl (fun r158 v159 H locs hp hw => ?_)
          have hF := hF.trans (kb2_some hp _)
          refine km_iast (t := 37) (i := 0) (n := 65) hx hb hK hw (by decide) (by decide) (fun _ => rfl) (by unfold vp_in; decide) dX8_gate_101 (fun H locs hw => ?_)
          obtain ⟨v160, ev160⟩ : ∃ z, z = up3 v159 37 0 (Int32.toNatClampNeg 2) r158 := ⟨_, rfl⟩
          rw [← ev160] at hw
          have hF := hF.trans (kb_some (congrArg some ev160.symm) _)
          refine lv_aload_n hx hb dX8_gate_102 rfl (lv_at hl 0 rfl) ?_
          refine lv_aload_n hx hb dX8_gate_103 rfl (lv_at hl 0 rfl) ?_
          refine km_get (ci := 8) (C := RX8) (T := TX8) (N := 23) (t := 30) (i := 0) hx hb hts fi_X8_gate_X8 hown hK hw (by decide) (by decide) rfl rfl 11 (by decide) (hts (.fieldLink RX8 98 "WrongWordModel" "token" "I") ow_X8_gate_98) rfl dX8_gate_104 ?_
          refine lv_iconst (v := 4) hx hb dX8_gate_107 (by decide) ?_
          refine lv_icmp_ne (tgt := 115) hx hb dX8_gate_108 (by decide) (fun c161 => ?_) (fun c161 => ?_)
          · skip
            have hF := hF.trans (if_neg c161)
            refine lv_iconst (v := 0) hx hb dX8_gate_115 (by decide) ?_
            refine lv_iconst (v := 1) hx hb dX8_gate_116 (by decide) ?_
            have hs162 : g_X8_takes v160 0 1 ≠ none := fun q => hs (hF.trans (kb2_n q _))
            refine km_cI (As := [.int 0, .int 1]) (rest := []) (n := 2) (q := (RX8, TX8, 23)) (ci := 8) (t := 30) (i := 0) ⟨hx, hb, hml, hown, hts⟩ (d_X8_takes l E Z v160 0 1 hs162) gX8_gate_X8_takes rfl hV_X8_takes ⟨Nat.le_of_ble_eq_true rfl, Nat.le_of_ble_eq_true rfl⟩ hK hw (by decide) (by decide) rfl rfl rfl hl.1 rfl (Nat.le_of_ble_eq_true rfl) dX8_gate_117 rfl rfl (fun r163 v164 H locs hp hw => ?_)
            have hF := hF.trans (kb2_some hp _)
            refine lv_pop hx hb dX8_gate_120 rfl ?_
            refine lv_aload_n hx hb dX8_gate_121 rfl (lv_at hl 0 rfl) ?_
            refine lv_aload_n hx hb dX8_gate_122 rfl (lv_at hl 0 rfl) ?_
            refine km_get (ci := 8) (C := RX8) (T := TX8) (N := 23) (t := 30) (i := 0) hx hb hts fi_X8_gate_X8 hown hK hw (by decide) (by decide) rfl rfl 11 (by decide) (hts (.fieldLink RX8 98 "WrongWordModel" "token" "I") ow_X8_gate_98) rfl dX8_gate_123 ?_
            refine lv_iconst (v := 1) hx hb dX8_gate_126 (by decide) ?_
            refine lv_icmp_ne (tgt := 143) hx hb dX8_gate_127 (by decide) (fun c165 => ?_) (fun c165 => ?_)
            · skip
              have hF := hF.trans (if_neg c165)
              refine lv_iconst (v := 0) hx hb dX8_gate_143 (by decide) ?_
              have hs166 : g_X8_must v164 0 ≠ none := fun q => hs (hF.trans (kb_n q _))
              refine km_cV (As := [.int 0]) (rest := []) (n := 1) (q := (RX8, TX8, 23)) (ci := 8) (t := 30) (i := 0) ⟨hx, hb, hml, hown, hts⟩ (d_X8_must l E Z v164 0 hs166) gX8_gate_X8_must rfl hV_X8_must ⟨Nat.le_of_ble_eq_true rfl, Nat.le_of_ble_eq_true rfl⟩ hK hw (by decide) (by decide) rfl rfl rfl hl.1 rfl (Nat.le_of_ble_eq_true rfl) dX8_gate_144 rfl rfl (fun v168 H locs hp hw => ?_)
              have hF := hF.trans (kb_some hp _)
              have hl := lv_sub (l' := [(0, .ref (Z.1 30 0)), (1, .int x1_2)]) hl [0, 1] rfl
              exact loop147 2000 v168 x1_2 _ _ _ hF hw hl
            · skip
              have hF := hF.trans (if_pos c165)
              refine lv_aload_n hx hb dX8_gate_130 rfl (lv_at hl 0 rfl) ?_
              refine km_get (ci := 8) (C := RX8) (T := TX8) (N := 23) (t := 30) (i := 0) hx hb hts fi_X8_gate_X8 hown hK hw (by decide) (by decide) rfl rfl 12 (by decide) (hts (.fieldLink RX8 95 "WrongWordModel" "value" "I") ow_X8_gate_95) rfl dX8_gate_131 ?_
              refine lv_bipush (v := 119) hx hb dX8_gate_134 (by decide) ?_
              refine lv_icmp_ne (tgt := 143) hx hb dX8_gate_136 (by decide) (fun c169 => ?_) (fun c169 => ?_)
              · skip
                have hF := hF.trans (if_neg c169)
                refine lv_iconst (v := 0) hx hb dX8_gate_143 (by decide) ?_
                have hs170 : g_X8_must v164 0 ≠ none := fun q => hs (hF.trans (kb_n q _))
                refine km_cV (As := [.int 0]) (rest := []) (n := 1) (q := (RX8, TX8, 23)) (ci := 8) (t := 30) (i := 0) ⟨hx, hb, hml, hown, hts⟩ (d_X8_must l E Z v164 0 hs170) gX8_gate_X8_must rfl hV_X8_must ⟨Nat.le_of_ble_eq_true rfl, Nat.le_of_ble_eq_true rfl⟩ hK hw (by decide) (by decide) rfl rfl rfl hl.1 rfl (Nat.le_of_ble_eq_true rfl) dX8_gate_144 rfl rfl (fun v172 H locs hp hw => ?_)
                have hF := hF.trans (kb_some hp _)
                have hl := lv_sub (l' := [(0, .ref (Z.1 30 0)), (1, .int x1_2)]) hl [0, 1] rfl
                exact loop147 2000 v172 x1_2 _ _ _ hF hw hl
              · skip
                have hF := hF.trans (if_pos c169)
                refine lv_iconst (v := 1) hx hb dX8_gate_139 (by decide) ?_
                refine lv_goto (tgt := 144) hx hb dX8_gate_140 (by decide) ?_
                have hs173 : g_X8_must v164 1 ≠ none := fun q => hs (hF.trans (kb_n q _))
                refine km_cV (As := [.int 1]) (rest := []) (n := 1) (q := (RX8, TX8, 23)) (ci := 8) (t := 30) (i := 0) ⟨hx, hb, hml, hown, hts⟩ (d_X8_must l E Z v164 1 hs173) gX8_gate_X8_must rfl hV_X8_must ⟨Nat.le_of_ble_eq_true rfl, Nat.le_of_ble_eq_true rfl⟩ hK hw (by decide) (by decide) rfl rfl rfl hl.1 rfl (Nat.le_of_ble_eq_true rfl) dX8_gate_144 rfl rfl (fun v175 H locs hp hw => ?_)
                have hF := hF.trans (kb_some hp _)
                have hl := lv_sub (l' := [(0, .ref (Z.1 30 0)), (1, .int x1_2)]) hl [0, 1] rfl
                exact loop147 2000 v175 x1_2 _ _ _ hF hw hl
          · skip
            have hF := hF.trans (if_pos c161)
            refine lv_iconst (v := 1) hx hb dX8_gate_111 (by decide) ?_
            refine lv_goto (tgt := 116) hx hb dX8_gate_112 (by decide) ?_
            refine lv_iconst (v := 1) hx hb dX8_gate_116 (by decide) ?_
            have hs176 : g_X8_takes v160 1 1 ≠ none := fun q => hs (hF.trans (kb2_n q _))
            refine km_cI (As := [.int 1, .int 1]) (rest := []) (n := 2) (q := (RX8, TX8, 23)) (ci := 8) (t := 30) (i := 0) ⟨hx, hb, hml, hown, hts⟩ (d_X8_takes l E Z v160 1 1 hs176) gX8_gate_X8_takes rfl hV_X8_takes ⟨Nat.le_of_ble_eq_true rfl, Nat.le_of_ble_eq_true rfl⟩ hK hw (by decide) (by decide) rfl rfl rfl hl.1 rfl (Nat.le_of_ble_eq_true rfl) dX8_gate_117 rfl rfl (fun r177 v178 H locs hp hw => ?_)
            have hF := hF.trans (kb2_some hp _)
            refine lv_pop hx hb dX8_gate_120 rfl ?_
            refine lv_aload_n hx hb dX8_gate_121 rfl (lv_at hl 0 rfl) ?_
            refine lv_aload_n hx hb dX8_gate_122 rfl (lv_at hl 0 rfl) ?_
            refine km_get (ci := 8) (C := RX8) (T := TX8) (N := 23) (t := 30) (i := 0) hx hb hts fi_X8_gate_X8 hown hK hw (by decide) (by decide) rfl rfl 11 (by decide) (hts (.fieldLink RX8 98 "WrongWordModel" "token" "I") ow_X8_gate_98) rfl dX8_gate_123 ?_
            refine lv_iconst (v := 1) hx hb dX8_gate_126 (by decide) ?_
            refine lv_icmp_ne (tgt := 143) hx hb dX8_gate_127 (by decide) (fun c179 => ?_) (fun c179 => ?_)
            · skip
              have hF := hF.trans (if_neg c179)
              refine lv_iconst (v := 0) hx hb dX8_gate_143 (by decide) ?_
              have hs180 : g_X8_must v178 0 ≠ none := fun q => hs (hF.trans (kb_n q _))
              refine km_cV (As := [.int 0]) (rest := []) (n := 1) (q := (RX8, TX8, 23)) (ci := 8) (t := 30) (i := 0) ⟨hx, hb, hml, hown, hts⟩ (d_X8_must l E Z v178 0 hs180) gX8_gate_X8_must rfl hV_X8_must ⟨Nat.le_of_ble_eq_true rfl, Nat.le_of_ble_eq_true rfl⟩ hK hw (by decide) (by decide) rfl rfl rfl hl.1 rfl (Nat.le_of_ble_eq_true rfl) dX8_gate_144 rfl rfl (fun v182 H locs hp hw => ?_)
              have hF := hF.trans (kb_some hp _)
              have hl := lv_sub (l' := [(0, .ref (Z.1 30 0)), (1, .int x1_2)]) hl [0, 1] rfl
              exact loop147 2000 v182 x1_2 _ _ _ hF hw hl
            · skip
              have hF := hF.trans (if_pos c179)
              refine lv_aload_n hx hb dX8_gate_130 rfl (lv_at hl 0 rfl) ?_
              refine km_get (ci := 8) (C := RX8) (T := TX8) (N := 23) (t := 30) (i := 0) hx hb hts fi_X8_gate_X8 hown hK hw (by decide) (by decide) rfl rfl 12 (by decide) (hts (.fieldLink RX8 95 "WrongWordModel" "value" "I") ow_X8_gate_95) rfl dX8_gate_131 ?_
              refine lv_bipush (v := 119) hx hb dX8_gate_134 (by decide) ?_
              refine lv_icmp_ne (tgt := 143) hx hb dX8_gate_136 (by decide) (fun c183 => ?_) (fun c183 => ?_)
              · skip
                have hF := hF.trans (if_neg c183)
                refine lv_iconst (v := 0) hx hb dX8_gate_143 (by decide) ?_
                have hs184 : g_X8_must v178 0 ≠ none := fun q => hs (hF.trans (kb_n q _))
                refine km_cV (As := [.int 0]) (rest := []) (n := 1) (q := (RX8, TX8, 23)) (ci := 8) (t := 30) (i := 0) ⟨hx, hb, hml, hown, hts⟩ (d_X8_must l E Z v178 0 hs184) gX8_gate_X8_must rfl hV_X8_must ⟨Nat.le_of_ble_eq_true rfl, Nat.le_of_ble_eq_true rfl⟩ hK hw (by decide) (by decide) rfl rfl rfl hl.1 rfl (Nat.le_of_ble_eq_true rfl) dX8_gate_144 rfl rfl (fun v186 H locs hp hw => ?_)
                have hF := hF.trans (kb_some hp _)
                have hl := lv_sub (l' := [(0, .ref (Z.1 30 0)), (1, .int x1_2)]) hl [0, 1] rfl
                exact loop147 2000 v186 x1_2 _ _ _ hF hw hl
              · skip
                have hF := hF.trans (if_pos c183)
                refine lv_iconst (v := 1) hx hb dX8_gate_139 (by decide) ?_
                refine lv_goto (tgt := 144) hx hb dX8_gate_140 (by decide) ?_
                have hs187 : g_X8_must v178 1 ≠ none := fun q => hs (hF.trans (kb_n q _))
                refine km_cV (As := [.int 1]) (rest := []) (n := 1) (q := (RX8, TX8, 23)) (ci := 8) (t := 30) (i := 0) ⟨hx, hb, hml, hown, hts⟩ (d_X8_must l E Z v178 1 hs187) gX8_gate_X8_must rfl hV_X8_must ⟨Nat.le_of_ble_eq_true rfl, Nat.le_of_ble_eq_true rfl⟩ hK hw (by decide) (by decide) rfl rfl rfl hl.1 rfl (Nat.le_of_ble_eq_true rfl) dX8_gate_144 rfl rfl (fun v189 H locs hp hw => ?_)
                have hF := hF.trans (kb_some hp _)
                have hl := lv_sub (l' := [(0, .ref (Z.1 30 0)), (1, .int x1_2)]) hl [0, 1] rfl
                exact loop147 2000 v189 x1_2 _ _ _ hF hw hl
        · skip
          have hF := hF.trans (if_pos c145)
          refine lv_aload_n hx hb dX8_gate_44 rfl (lv_at hl 0 rfl) ?_
          refine km_get (ci := 8) (C := RX8) (T := TX8) (N := 23) (t := 30) (i := 0) hx hb hts fi_X8_gate_X8 hown hK hw (by decide) (by decide) rfl rfl 12 (by decide) (hts (.fieldLink RX8 95 "WrongWordModel" "value" "I") ow_X8_gate_95) rfl dX8_gate_45 ?_
          refine lv_bipush (v := 113) hx hb dX8_gate_48 (by decide) ?_
          refine lv_icmp_ne (tgt := 57) hx hb dX8_gate_50 (by decide) (fun c190 => ?_) (fun c190 => ?_)
          · skip
            have hF := hF.trans (if_neg c190)
            refine lv_iconst (v := 0) hx hb dX8_gate_57 (by decide) ?_
            refine lv_iconst (v := 1) hx hb dX8_gate_58 (by decide) ?_
            have hs191 : g_X8_takes v144 0 1 ≠ none := fun q => hs (hF.trans (kb2_n q _))
            refine km_cI (As := [.int 0, .int 1]) (rest := []) (n := 2) (q := (RX8, TX8, 23)) (ci := 8) (t := 30) (i := 0) ⟨hx, hb, hml, hown, hts⟩ (d_X8_takes l E Z v144 0 1 hs191) gX8_gate_X8_takes rfl hV_X8_takes ⟨Nat.le_of_ble_eq_true rfl, Nat.le_of_ble_eq_true rfl⟩ hK hw (by decide) (by decide) rfl rfl rfl hl.1 rfl (Nat.le_of_ble_eq_true rfl) dX8_gate_59 rfl rfl (fun r192 v193 H locs hp hw => ?_)
            have hF := hF.trans (kb2_some hp _)
            refine lv_pop hx hb dX8_gate_62 rfl ?_
            refine lv_aload_n hx hb dX8_gate_63 rfl (lv_at hl 0 rfl) ?_
            refine km_get (ci := 8) (C := RX8) (T := TX8) (N := 23) (t := 30) (i := 0) hx hb hts fi_X8_gate_X8 hown hK hw (by decide) (by decide) rfl rfl 14 (by decide) (hts (.fieldLink RX8 28 "WrongWordModel" "draft" "[I") ow_X8_gate_28) rfl dX8_gate_64 ?_
            refine lv_iconst (v := 0) hx hb dX8_gate_67 (by decide) ?_
            refine lv_aload_n hx hb dX8_gate_68 rfl (lv_at hl 0 rfl) ?_
            refine lv_iconst (v := 0) hx hb dX8_gate_69 (by decide) ?_
            refine lv_bipush (v := 9) hx hb dX8_gate_70 (by decide) ?_
            have hs194 : g_X8_figure v193 0 9 ≠ none := fun q => hs (hF.trans (kb2_n q _))
            refine km_cI (As := [.int 0, .int 9]) (rest := [.int 0, .ref (Z.1 37 0)]) (n := 2) (q := (RX8, TX8, 23)) (ci := 8) (t := 30) (i := 0) ⟨hx, hb, hml, hown, hts⟩ (d_X8_figure l E Z v193 0 9 hs194) gX8_gate_X8_figure rfl hV_X8_figure ⟨Nat.le_of_ble_eq_true rfl, Nat.le_of_ble_eq_true rfl⟩ hK hw (by decide) (by decide) rfl rfl rfl hl.1 rfl (Nat.le_of_ble_eq_true rfl) dX8_gate_72 rfl rfl (fun r195 v196 H locs hp hw => ?_)
            have hF := hF.trans (kb2_some hp _)
            refine km_iast (t := 37) (i := 0) (n := 65) hx hb hK hw (by decide) (by decide) (fun _ => rfl) (by unfold vp_in; decide) dX8_gate_75 (fun H locs hw => ?_)
            obtain ⟨v197, ev197⟩ : ∃ z, z = up3 v196 37 0 (Int32.toNatClampNeg 0) r195 := ⟨_, rfl⟩
            rw [← ev197] at hw
            have hF := hF.trans (kb_some (congrArg some ev197.symm) _)
            refine lv_aload_n hx hb dX8_gate_76 rfl (lv_at hl 0 rfl) ?_
            refine km_get (ci := 8) (C := RX8) (T := TX8) (N := 23) (t := 30) (i := 0) hx hb hts fi_X8_gate_X8 hown hK hw (by decide) (by decide) rfl rfl 14 (by decide) (hts (.fieldLink RX8 28 "WrongWordModel" "draft" "[I") ow_X8_gate_28) rfl dX8_gate_77 ?_
            refine lv_iconst (v := 1) hx hb dX8_gate_80 (by decide) ?_
            refine lv_aload_n hx hb dX8_gate_81 rfl (lv_at hl 0 rfl) ?_
            refine lv_iconst (v := 0) hx hb dX8_gate_82 (by decide) ?_
            refine lv_bipush (v := 9) hx hb dX8_gate_83 (by decide) ?_
            have hs198 : g_X8_follows v197 0 9 ≠ none := fun q => hs (hF.trans (kb2_n q _))
            refine km_cI (As := [.int 0, .int 9]) (rest := [.int 1, .ref (Z.1 37 0)]) (n := 2) (q := (RX8, TX8, 23)) (ci := 8) (t := 30) (i := 0) ⟨hx, hb, hml, hown, hts⟩ (d_X8_follows l E Z v197 0 9 hs198) gX8_gate_X8_follows rfl hV_X8_follows ⟨Nat.le_of_ble_eq_true rfl, Nat.le_of_ble_eq_true rfl⟩ hK hw (by decide) (by decide) rfl rfl rfl hl.1 rfl (Nat.le_of_ble_eq_true rfl) dX8_gate_85 rfl rfl (fun r199 v200 H locs hp hw => ?_)
            have hF := hF.trans (kb2_some hp _)
            refine km_iast (t := 37) (i := 0) (n := 65) hx hb hK hw (by decide) (by decide) (fun _ => rfl) (by unfold vp_in; decide) dX8_gate_88 (fun H locs hw => ?_)
            obtain ⟨v201, ev201⟩ : ∃ z, z = up3 v200 37 0 (Int32.toNatClampNeg 1) r199 := ⟨_, rfl⟩
            rw [← ev201] at hw
            have hF := hF.trans (kb_some (congrArg some ev201.symm) _)
            refine lv_aload_n hx hb dX8_gate_89 rfl (lv_at hl 0 rfl) ?_
            refine km_get (ci := 8) (C := RX8) (T := TX8) (N := 23) (t := 30) (i := 0) hx hb hts fi_X8_gate_X8 hown hK hw (by decide) (by decide) rfl rfl 14 (by decide) (hts (.fieldLink RX8 28 "WrongWordModel" "draft" "[I") ow_X8_gate_28) rfl dX8_gate_90 ?_
            refine lv_iconst (v := 2) hx hb dX8_gate_93 (by decide) ?_
            refine lv_aload_n hx hb dX8_gate_94 rfl (lv_at hl 0 rfl) ?_
            refine lv_iconst (v := 0) hx hb dX8_gate_95 (by decide) ?_
            refine lv_bipush (v := 6) hx hb dX8_gate_96 (by decide) ?_
            have hs202 : g_X8_follows v201 0 6 ≠ none := fun q => hs (hF.trans (kb2_n q _))
            refine km_cI (As := [.int 0, .int 6]) (rest := [.int 2, .ref (Z.1 37 0)]) (n := 2) (q := (RX8, TX8, 23)) (ci := 8) (t := 30) (i := 0) ⟨hx, hb, hml, hown, hts⟩ (d_X8_follows l E Z v201 0 6 hs202) gX8_gate_X8_follows rfl hV_X8_follows ⟨Nat.le_of_ble_eq_true rfl, Nat.le_of_ble_eq_true rfl⟩ hK hw (by decide) (by decide) rfl rfl rfl hl.1 rfl (Nat.le_of_ble_eq_true rfl) dX8_gate_98 rfl rfl (fun r203 v204 H locs hp hw => ?_)
            have hF := hF.trans (kb2_some hp _)
            refine km_iast (t := 37) (i := 0) (n := 65) hx hb hK hw (by decide) (by decide) (fun _ => rfl) (by unfold vp_in; decide) dX8_gate_101 (fun H locs hw => ?_)
            obtain ⟨v205, ev205⟩ : ∃ z, z = up3 v204 37 0 (Int32.toNatClampNeg 2) r203 := ⟨_, rfl⟩
            rw [← ev205] at hw
            have hF := hF.trans (kb_some (congrArg some ev205.symm) _)
            refine lv_aload_n hx hb dX8_gate_102 rfl (lv_at hl 0 rfl) ?_
            refine lv_aload_n hx hb dX8_gate_103 rfl (lv_at hl 0 rfl) ?_
            refine km_get (ci := 8) (C := RX8) (T := TX8) (N := 23) (t := 30) (i := 0) hx hb hts fi_X8_gate_X8 hown hK hw (by decide) (by decide) rfl rfl 11 (by decide) (hts (.fieldLink RX8 98 "WrongWordModel" "token" "I") ow_X8_gate_98) rfl dX8_gate_104 ?_
            refine lv_iconst (v := 4) hx hb dX8_gate_107 (by decide) ?_
            refine lv_icmp_ne (tgt := 115) hx hb dX8_gate_108 (by decide) (fun c206 => ?_) (fun c206 => ?_)
            · skip
              have hF := hF.trans (if_neg c206)
              refine lv_iconst (v := 0) hx hb dX8_gate_115 (by decide) ?_
              refine lv_iconst (v := 1) hx hb dX8_gate_116 (by decide) ?_
              have hs207 : g_X8_takes v205 0 1 ≠ none := fun q => hs (hF.trans (kb2_n q _))
              refine km_cI (As := [.int 0, .int 1]) (rest := []) (n := 2) (q := (RX8, TX8, 23)) (ci := 8) (t := 30) (i := 0) ⟨hx, hb, hml, hown, hts⟩ (d_X8_takes l E Z v205 0 1 hs207) gX8_gate_X8_takes rfl hV_X8_takes ⟨Nat.le_of_ble_eq_true rfl, Nat.le_of_ble_eq_true rfl⟩ hK hw (by decide) (by decide) rfl rfl rfl hl.1 rfl (Nat.le_of_ble_eq_true rfl) dX8_gate_117 rfl rfl (fun r208 v209 H locs hp hw => ?_)
              have hF := hF.trans (kb2_some hp _)
              refine lv_pop hx hb dX8_gate_120 rfl ?_
              refine lv_aload_n hx hb dX8_gate_121 rfl (lv_at hl 0 rfl) ?_
              refine lv_aload_n hx hb dX8_gate_122 rfl (lv_at hl 0 rfl) ?_
              refine km_get (ci := 8) (C := RX8) (T := TX8) (N := 23) (t := 30) (i := 0) hx hb hts fi_X8_gate_X8 hown hK hw (by decide) (by decide) rfl rfl 11 (by decide) (hts (.fieldLink RX8 98 "WrongWordModel" "token" "I") ow_X8_gate_98) rfl dX8_gate_123 ?_
              refine lv_iconst (v := 1) hx hb dX8_gate_126 (by decide) ?_
              refine lv_icmp_ne (tgt := 143) hx hb dX8_gate_127 (by decide) (fun c210 => ?_) (fun c210 => ?_)
              · skip
                have hF := hF.trans (if_neg c210)
                refine lv_iconst (v := 0) hx hb dX8_gate_143 (by decide) ?_
                have hs211 : g_X8_must v209 0 ≠ none := fun q => hs (hF.trans (kb_n q _))
                refine km_cV (As := [.int 0]) (rest := []) (n := 1) (q := (RX8, TX8, 23)) (ci := 8) (t := 30) (i := 0) ⟨hx, hb, hml, hown, hts⟩ (d_X8_must l E Z v209 0 hs211) gX8_gate_X8_must rfl hV_X8_must ⟨Nat.le_of_ble_eq_true rfl, Nat.le_of_ble_eq_true rfl⟩ hK hw (by decide) (by decide) rfl rfl rfl hl.1 rfl (Nat.le_of_ble_eq_true rfl) dX8_gate_144 rfl rfl (fun v213 H locs hp hw => ?_)
                have hF := hF.trans (kb_some hp _)
                have hl := lv_sub (l' := [(0, .ref (Z.1 30 0)), (1, .int x1_2)]) hl [0, 1] rfl
                exact loop147 2000 v213 x1_2 _ _ _ hF hw hl
              · skip
                have hF := hF.trans (if_pos c210)
                refine lv_aload_n hx hb dX8_gate_130 rfl (lv_at hl 0 rfl) ?_
                refine km_get (ci := 8) (C := RX8) (T := TX8) (N := 23) (t := 30) (i := 0) hx hb hts fi_X8_gate_X8 hown hK hw (by decide) (by decide) rfl rfl 12 (by decide) (hts (.fieldLink RX8 95 "WrongWordModel" "value" "I") ow_X8_gate_95) rfl dX8_gate_131 ?_
                refine lv_bipush (v := 119) hx hb dX8_gate_134 (by decide) ?_
                refine lv_icmp_ne (tgt := 143) hx hb dX8_gate_136 (by decide) (fun c214 => ?_) (fun c214 => ?_)
                · skip
                  have hF := hF.trans (if_neg c214)
                  refine lv_iconst (v := 0) hx hb dX8_gate_143 (by decide) ?_
                  have hs215 : g_X8_must v209 0 ≠ none := fun q => hs (hF.trans (kb_n q _))
                  refine km_cV (As := [.int 0]) (rest := []) (n := 1) (q := (RX8, TX8, 23)) (ci := 8) (t := 30) (i := 0) ⟨hx, hb, hml, hown, hts⟩ (d_X8_must l E Z v209 0 hs215) gX8_gate_X8_must rfl hV_X8_must ⟨Nat.le_of_ble_eq_true rfl, Nat.le_of_ble_eq_true rfl⟩ hK hw (by decide) (by decide) rfl rfl rfl hl.1 rfl (Nat.le_of_ble_eq_true rfl) dX8_gate_144 rfl rfl (fun v217 H locs hp hw => ?_)
                  have hF := hF.trans (kb_some hp _)
                  have hl := lv_sub (l' := [(0, .ref (Z.1 30 0)), (1, .int x1_2)]) hl [0, 1] rfl
                  exact loop147 2000 v217 x1_2 _ _ _ hF hw hl
                · skip
                  have hF := hF.trans (if_pos c214)
                  refine lv_iconst (v := 1) hx hb dX8_gate_139 (by decide) ?_
                  refine lv_goto (tgt := 144) hx hb dX8_gate_140 (by decide) ?_
                  have hs218 : g_X8_must v209 1 ≠ none := fun q => hs (hF.trans (kb_n q _))
                  refine km_cV (As := [.int 1]) (rest := []) (n := 1) (q := (RX8, TX8, 23)) (ci := 8) (t := 30) (i := 0) ⟨hx, hb, hml, hown, hts⟩ (d_X8_must l E Z v209 1 hs218) gX8_gate_X8_must rfl hV_X8_must ⟨Nat.le_of_ble_eq_true rfl, Nat.le_of_ble_eq_true rfl⟩ hK hw (by decide) (by decide) rfl rfl rfl hl.1 rfl (Nat.le_of_ble_eq_true rfl) dX8_gate_144 rfl rfl (fun v220 H locs hp hw => ?_)
                  have hF := hF.trans (kb_some hp _)
                  have hl := lv_sub (l' := [(0, .ref (Z.1 30 0)), (1, .int x1_2)]) hl [0, 1] rfl
                  exact loop147 2000 v220 x1_2 _ _ _ hF hw hl
            · skip
              have hF := hF.trans (if_pos c206)
              refine lv_iconst (v := 1) hx hb dX8_gate_111 (by decide) ?_
              refine lv_goto (tgt := 116) hx hb dX8_gate_112 (by decide) ?_
              refine lv_iconst (v := 1) hx hb dX8_gate_116 (by decide) ?_
              have hs221 : g_X8_takes v205 1 1 ≠ none := fun q => hs (hF.trans (kb2_n q _))
              refine km_cI (As := [.int 1, .int 1]) (rest := []) (n := 2) (q := (RX8, TX8, 23)) (ci := 8) (t := 30) (i := 0) ⟨hx, hb, hml, hown, hts⟩ (d_X8_takes l E Z v205 1 1 hs221) gX8_gate_X8_takes rfl hV_X8_takes ⟨Nat.le_of_ble_eq_true rfl, Nat.le_of_ble_eq_true rfl⟩ hK hw (by decide) (by decide) rfl rfl rfl hl.1 rfl (Nat.le_of_ble_eq_true rfl) dX8_gate_117 rfl rfl (fun r222 v223 H locs hp hw => ?_)
              have hF := hF.trans (kb2_some hp _)
              refine lv_pop hx hb dX8_gate_120 rfl ?_
              refine lv_aload_n hx hb dX8_gate_121 rfl (lv_at hl 0 rfl) ?_
              refine lv_aload_n hx hb dX8_gate_122 rfl (lv_at hl 0 rfl) ?_
              refine km_get (ci := 8) (C := RX8) (T := TX8) (N := 23) (t := 30) (i := 0) hx hb hts fi_X8_gate_X8 hown hK hw (by decide) (by decide) rfl rfl 11 (by decide) (hts (.fieldLink RX8 98 "WrongWordModel" "token" "I") ow_X8_gate_98) rfl dX8_gate_123 ?_
              refine lv_iconst (v := 1) hx hb dX8_gate_126 (by decide) ?_
              refine lv_icmp_ne (tgt := 143) hx hb dX8_gate_127 (by decide) (fun c224 => ?_) (fun c224 => ?_)
              · skip
                have hF := hF.trans (if_neg c224)
                refine lv_iconst (v := 0) hx hb dX8_gate_143 (by decide) ?_
                have hs225 : g_X8_must v223 0 ≠ none := fun q => hs (hF.trans (kb_n q _))
                refine km_cV (As := [.int 0]) (rest := []) (n := 1) (q := (RX8, TX8, 23)) (ci := 8) (t := 30) (i := 0) ⟨hx, hb, hml, hown, hts⟩ (d_X8_must l E Z v223 0 hs225) gX8_gate_X8_must rfl hV_X8_must ⟨Nat.le_of_ble_eq_true rfl, Nat.le_of_ble_eq_true rfl⟩ hK hw (by decide) (by decide) rfl rfl rfl hl.1 rfl (Nat.le_of_ble_eq_true rfl) dX8_gate_144 rfl rfl (fun v227 H locs hp hw => ?_)
                have hF := hF.trans (kb_some hp _)
                have hl := lv_sub (l' := [(0, .ref (Z.1 30 0)), (1, .int x1_2)]) hl [0, 1] rfl
                exact loop147 2000 v227 x1_2 _ _ _ hF hw hl
              · skip
                have hF := hF.trans (if_pos c224)
                refine lv_aload_n hx hb dX8_gate_130 rfl (lv_at hl 0 rfl) ?_
                refine km_get (ci := 8) (C := RX8) (T := TX8) (N := 23) (t := 30) (i := 0) hx hb hts fi_X8_gate_X8 hown hK hw (by decide) (by decide) rfl rfl 12 (by decide) (hts (.fieldLink RX8 95 "WrongWordModel" "value" "I") ow_X8_gate_95) rfl dX8_gate_131 ?_
                refine lv_bipush (v := 119) hx hb dX8_gate_134 (by decide) ?_
                refine lv_icmp_ne (tgt := 143) hx hb dX8_gate_136 (by decide) (fun c228 => ?_) (fun c228 => ?_)
                · skip
                  have hF := hF.trans (if_neg c228)
                  refine lv_iconst (v := 0) hx hb dX8_gate_143 (by decide) ?_
                  have hs229 : g_X8_must v223 0 ≠ none := fun q => hs (hF.trans (kb_n q _))
                  refine km_cV (As := [.int 0]) (rest := []) (n := 1) (q := (RX8, TX8, 23)) (ci := 8) (t := 30) (i := 0) ⟨hx, hb, hml, hown, hts⟩ (d_X8_must l E Z v223 0 hs229) gX8_gate_X8_must rfl hV_X8_must ⟨Nat.le_of_ble_eq_true rfl, Nat.le_of_ble_eq_true rfl⟩ hK hw (by decide) (by decide) rfl rfl rfl hl.1 rfl (Nat.le_of_ble_eq_true rfl) dX8_gate_144 rfl rfl (fun v231 H locs hp hw => ?_)
                  have hF := hF.trans (kb_some hp _)
                  have hl := lv_sub (l' := [(0, .ref (Z.1 30 0)), (1, .int x1_2)]) hl [0, 1] rfl
                  exact loop147 2000 v231 x1_2 _ _ _ hF hw hl
                · skip
                  have hF := hF.trans (if_pos c228)
                  refine lv_iconst (v := 1) hx hb dX8_gate_139 (by decide) ?_
                  refine lv_goto (tgt := 144) hx hb dX8_gate_140 (by decide) ?_
                  have hs232 : g_X8_must v223 1 ≠ none := fun q => hs (hF.trans (kb_n q _))
                  refine km_cV (As := [.int 1]) (rest := []) (n := 1) (q := (RX8, TX8, 23)) (ci := 8) (t := 30) (i := 0) ⟨hx, hb, hml, hown, hts⟩ (d_X8_must l E Z v223 1 hs232) gX8_gate_X8_must rfl hV_X8_must ⟨Nat.le_of_ble_eq_true rfl, Nat.le_of_ble_eq_true rfl⟩ hK hw (by decide) (by decide) rfl rfl rfl hl.1 rfl (Nat.le_of_ble_eq_true rfl) dX8_gate_144 rfl rfl (fun v234 H locs hp hw => ?_)
                  have hF := hF.trans (kb_some hp _)
                  have hl := lv_sub (l' := [(0, .ref (Z.1 30 0)), (1, .int x1_2)]) hl [0, 1] rfl
                  exact loop147 2000 v234 x1_2 _ _ _ hF hw hl
          · skip
            have hF := hF.trans (if_pos c190)
            refine lv_iconst (v := 1) hx hb dX8_gate_53 (by decide) ?_
            refine lv_goto (tgt := 58) hx hb dX8_gate_54 (by decide) ?_
            refine lv_iconst (v := 1) hx hb dX8_gate_58 (by decide) ?_
            have hs235 : g_X8_takes v144 1 1 ≠ none := fun q => hs (hF.trans (kb2_n q _))
            refine km_cI (As := [.int 1, .int 1]) (rest := []) (n := 2) (q := (RX8, TX8, 23)) (ci := 8) (t := 30) (i := 0) ⟨hx, hb, hml, hown, hts⟩ (d_X8_takes l E Z v144 1 1 hs235) gX8_gate_X8_takes rfl hV_X8_takes ⟨Nat.le_of_ble_eq_true rfl, Nat.le_of_ble_eq_true rfl⟩ hK hw (by decide) (by decide) rfl rfl rfl hl.1 rfl (Nat.le_of_ble_eq_true rfl) dX8_gate_59 rfl rfl (fun r236 v237 H locs hp hw => ?_)
            have hF := hF.trans (kb2_some hp _)
            refine lv_pop hx hb dX8_gate_62 rfl ?_
            refine lv_aload_n hx hb dX8_gate_63 rfl (lv_at hl 0 rfl) ?_
            refine km_get (ci := 8) (C := RX8) (T := TX8) (N := 23) (t := 30) (i := 0) hx hb hts fi_X8_gate_X8 hown hK hw (by decide) (by decide) rfl rfl 14 (by decide) (hts (.fieldLink RX8 28 "WrongWordModel" "draft" "[I") ow_X8_gate_28) rfl dX8_gate_64 ?_
            refine lv_iconst (v := 0) hx hb dX8_gate_67 (by decide) ?_
            refine lv_aload_n hx hb dX8_gate_68 rfl (lv_at hl 0 rfl) ?_
            refine lv_iconst (v := 0) hx hb dX8_gate_69 (by decide) ?_
            refine lv_bipush (v := 9) hx hb dX8_gate_70 (by decide) ?_
            have hs238 : g_X8_figure v237 0 9 ≠ none := fun q => hs (hF.trans (kb2_n q _))
            refine km_cI (As := [.int 0, .int 9]) (rest := [.int 0, .ref (Z.1 37 0)]) (n := 2) (q := (RX8, TX8, 23)) (ci := 8) (t := 30) (i := 0) ⟨hx, hb, hml, hown, hts⟩ (d_X8_figure l E Z v237 0 9 hs238) gX8_gate_X8_figure rfl hV_X8_figure ⟨Nat.le_of_ble_eq_true rfl, Nat.le_of_ble_eq_true rfl⟩ hK hw (by decide) (by decide) rfl rfl rfl hl.1 rfl (Nat.le_of_ble_eq_true rfl) dX8_gate_72 rfl rfl (fun r239 v240 H locs hp hw => ?_)
            have hF := hF.trans (kb2_some hp _)
            refine km_iast (t := 37) (i := 0) (n := 65) hx hb hK hw (by decide) (by decide) (fun _ => rfl) (by unfold vp_in; decide) dX8_gate_75 (fun H locs hw => ?_)
            obtain ⟨v241, ev241⟩ : ∃ z, z = up3 v240 37 0 (Int32.toNatClampNeg 0) r239 := ⟨_, rfl⟩
            rw [← ev241] at hw
            have hF := hF.trans (kb_some (congrArg some ev241.symm) _)
            refine lv_aload_n hx hb dX8_gate_76 rfl (lv_at hl 0 rfl) ?_
            refine km_get (ci := 8) (C := RX8) (T := TX8) (N := 23) (t := 30) (i := 0) hx hb hts fi_X8_gate_X8 hown hK hw (by decide) (by decide) rfl rfl 14 (by decide) (hts (.fieldLink RX8 28 "WrongWordModel" "draft" "[I") ow_X8_gate_28) rfl dX8_gate_77 ?_
            refine lv_iconst (v := 1) hx hb dX8_gate_80 (by decide) ?_
            refine lv_aload_n hx hb dX8_gate_81 rfl (lv_at hl 0 rfl) ?_
            refine lv_iconst (v := 0) hx hb dX8_gate_82 (by decide) ?_
            refine lv_bipush (v := 9) hx hb dX8_gate_83 (by decide) ?_
            have hs242 : g_X8_follows v241 0 9 ≠ none := fun q => hs (hF.trans (kb2_n q _))
            refine km_cI (As := [.int 0, .int 9]) (rest := [.int 1, .ref (Z.1 37 0)]) (n := 2) (q := (RX8, TX8, 23)) (ci := 8) (t := 30) (i := 0) ⟨hx, hb, hml, hown, hts⟩ (d_X8_follows l E Z v241 0 9 hs242) gX8_gate_X8_follows rfl hV_X8_follows ⟨Nat.le_of_ble_eq_true rfl, Nat.le_of_ble_eq_true rfl⟩ hK hw (by decide) (by decide) rfl rfl rfl hl.1 rfl (Nat.le_of_ble_eq_true rfl) dX8_gate_85 rfl rfl (fun r243 v244 H locs hp hw => ?_)
            have hF := hF.trans (kb2_some hp _)
            refine km_iast (t := 37) (i := 0) (n := 65) hx hb hK hw (by decide) (by decide) (fun _ => rfl) (by unfold vp_in; decide) dX8_gate_88 (fun H locs hw => ?_)
            obtain ⟨v245, ev245⟩ : ∃ z, z = up3 v244 37 0 (Int32.toNatClampNeg 1) r243 := ⟨_, rfl⟩
            rw [← ev245] at hw
            have hF := hF.trans (kb_some (congrArg some ev245.symm) _)
            refine lv_aload_n hx hb dX8_gate_89 rfl (lv_at hl 0 rfl) ?_
            refine km_get (ci := 8) (C := RX8) (T := TX8) (N := 23) (t := 30) (i := 0) hx hb hts fi_X8_gate_X8 hown hK hw (by decide) (by decide) rfl rfl 14 (by decide) (hts (.fieldLink RX8 28 "WrongWordModel" "draft" "[I") ow_X8_gate_28) rfl dX8_gate_90 ?_
            refine lv_iconst (v := 2) hx hb dX8_gate_93 (by decide) ?_
            refine lv_aload_n hx hb dX8_gate_94 rfl (lv_at hl 0 rfl) ?_
            refine lv_iconst (v := 0) hx hb dX8_gate_95 (by decide) ?_
            refine lv_bipush (v := 6) hx hb dX8_gate_96 (by decide) ?_
            have hs246 : g_X8_follows v245 0 6 ≠ none := fun q => hs (hF.trans (kb2_n q _))
            refine km_cI (As := [.int 0, .int 6]) (rest := [.int 2, .ref (Z.1 37 0)]) (n := 2) (q := (RX8, TX8, 23)) (ci := 8) (t := 30) (i := 0) ⟨hx, hb, hml, hown, hts⟩ (d_X8_follows l E Z v245 0 6 hs246) gX8_gate_X8_follows rfl hV_X8_follows ⟨Nat.le_of_ble_eq_true rfl, Nat.le_of_ble_eq_true rfl⟩ hK hw (by decide) (by decide) rfl rfl rfl hl.1 rfl (Nat.le_of_ble_eq_true rfl) dX8_gate_98 rfl rfl (fun r247 v248 H locs hp hw => ?_)
            have hF := hF.trans (kb2_some hp _)
            refine km_iast (t := 37) (i := 0) (n := 65) hx hb hK hw (by decide) (by decide) (fun _ => rfl) (by unfold vp_in; decide) dX8_gate_101 (fun H locs hw => ?_)
            obtain ⟨v249, ev249⟩ : ∃ z, z = up3 v248 37 0 (Int32.toNatClampNeg 2) r247 := ⟨_, rfl⟩
            rw [← ev249] at hw
            have hF := hF.trans (kb_some (congrArg some ev249.symm) _)
            refine lv_aload_n hx hb dX8_gate_102 rfl (lv_at hl 0 rfl) ?_
            refine lv_aload_n hx hb dX8_gate_103 rfl (lv_at hl 0 rfl) ?_
            refine km_get (ci := 8) (C := RX8) (T := TX8) (N := 23) (t := 30) (i := 0) hx hb hts fi_X8_gate_X8 hown hK hw (by decide) (by decide) rfl rfl 11 (by decide) (hts (.fieldLink RX8 98 "WrongWordModel" "token" "I") ow_X8_gate_98) rfl dX8_gate_104 ?_
            refine lv_iconst (v := 4) hx hb dX8_gate_107 (by decide) ?_
            refine lv_icmp_ne (tgt := 115) hx hb dX8_gate_108 (by decide) (fun c250 => ?_) (fun c250 => ?_)
            · skip
              have hF := hF.trans (if_neg c250)
              refine lv_iconst (v := 0) hx hb dX8_gate_115 (by decide) ?_
              refine lv_iconst (v := 1) hx hb dX8_gate_116 (by decide) ?_
              have hs251 : g_X8_takes v249 0 1 ≠ none := fun q => hs (hF.trans (kb2_n q _))
              refine km_cI (As := [.int 0, .int 1]) (rest := []) (n := 2) (q := (RX8, TX8, 23)) (ci := 8) (t := 30) (i := 0) ⟨hx, hb, hml, hown, hts⟩ (d_X8_takes l E Z v249 0 1 hs251) gX8_gate_X8_takes rfl hV_X8_takes ⟨Nat.le_of_ble_eq_true rfl, Nat.le_of_ble_eq_true rfl⟩ hK hw (by decide) (by decide) rfl rfl rfl hl.1 rfl (Nat.le_of_ble_eq_true rfl) dX8_gate_117 rfl rfl (fun r252 v253 H locs hp hw => ?_)
              have hF := hF.trans (kb2_some hp _)
              refine lv_pop hx hb dX8_gate_120 rfl ?_
              refine lv_aload_n hx hb dX8_gate_121 rfl (lv_at hl 0 rfl) ?_
              refine lv_aload_n hx hb dX8_gate_122 rfl (lv_at hl 0 rfl) ?_
              refine km_get (ci := 8) (C := RX8) (T := TX8) (N := 23) (t := 30) (i := 0) hx hb hts fi_X8_gate_X8 hown hK hw (by decide) (by decide) rfl rfl 11 (by decide) (hts (.fieldLink RX8 98 "WrongWordModel" "token" "I") ow_X8_gate_98) rfl dX8_gate_123 ?_
              refine lv_iconst (v := 1) hx hb dX8_gate_126 (by decide) ?_
              refine lv_icmp_ne (tgt := 143) hx hb dX8_gate_127 (by decide) (fun c254 => ?_) (fun c254 => ?_)
              · skip
                have hF := hF.trans (if_neg c254)
                refine lv_iconst (v := 0) hx hb dX8_gate_143 (by decide) ?_
                have hs255 : g_X8_must v253 0 ≠ none := fun q => hs (hF.trans (kb_n q _))
                refine km_cV (As := [.int 0]) (rest := []) (n := 1) (q := (RX8, TX8, 23)) (ci := 8) (t := 30) (i := 0) ⟨hx, hb, hml, hown, hts⟩ (d_X8_must l E Z v253 0 hs255) gX8_gate_X8_must rfl hV_X8_must ⟨Nat.le_of_ble_eq_true rfl, Nat.le_of_ble_eq_true rfl⟩ hK hw (by decide) (by decide) rfl rfl rfl hl.1 rfl (Nat.le_of_ble_eq_true rfl) dX8_gate_144 rfl rfl (fun v257 H locs hp hw => ?_)
                have hF := hF.trans (kb_some hp _)
                have hl := lv_sub (l' := [(0, .ref (Z.1 30 0)), (1, .int x1_2)]) hl [0, 1] rfl
                exact loop147 2000 v257 x1_2 _ _ _ hF hw hl
              · skip
                have hF := hF.trans (if_pos c254)
                refine lv_aload_n hx hb dX8_gate_130 rfl (lv_at hl 0 rfl) ?_
                refine km_get (ci := 8) (C := RX8) (T := TX8) (N := 23) (t := 30) (i := 0) hx hb hts fi_X8_gate_X8 hown hK hw (by decide) (by decide) rfl rfl 12 (by decide) (hts (.fieldLink RX8 95 "WrongWordModel" "value" "I") ow_X8_gate_95) rfl dX8_gate_131 ?_
                refine lv_bipush (v := 119) hx hb dX8_gate_134 (by decide) ?_
                refine lv_icmp_ne (tgt := 143) hx hb dX8_gate_136 (by decide) (fun c258 => ?_) (fun c258 => ?_)
                · skip
                  have hF := hF.trans (if_neg c258)
                  refine lv_iconst (v := 0) hx hb dX8_gate_143 (by decide) ?_
                  have hs259 : g_X8_must v253 0 ≠ none := fun q => hs (hF.trans (kb_n q _))
                  refine km_cV (As := [.int 0]) (rest := []) (n := 1) (q := (RX8, TX8, 23)) (ci := 8) (t := 30) (i := 0) ⟨hx, hb, hml, hown, hts⟩ (d_X8_must l E Z v253 0 hs259) gX8_gate_X8_must rfl hV_X8_must ⟨Nat.le_of_ble_eq_true rfl, Nat.le_of_ble_eq_true rfl⟩ hK hw (by decide) (by decide) rfl rfl rfl hl.1 rfl (Nat.le_of_ble_eq_true rfl) dX8_gate_144 rfl rfl (fun v261 H locs hp hw => ?_)
                  have hF := hF.trans (kb_some hp _)
                  have hl := lv_sub (l' := [(0, .ref (Z.1 30 0)), (1, .int x1_2)]) hl [0, 1] rfl
                  exact loop147 2000 v261 x1_2 _ _ _ hF hw hl
                · skip
                  have hF := hF.trans (if_pos c258)
                  refine lv_iconst (v := 1) hx hb dX8_gate_139 (by decide) ?_
                  refine lv_goto (tgt := 144) hx hb dX8_gate_140 (by decide) ?_
                  have hs262 : g_X8_must v253 1 ≠ none := fun q => hs (hF.trans (kb_n q _))
                  refine km_cV (As := [.int 1]) (rest := []) (n := 1) (q := (RX8, TX8, 23)) (ci := 8) (t := 30) (i := 0) ⟨hx, hb, hml, hown, hts⟩ (d_X8_must l E Z v253 1 hs262) gX8_gate_X8_must rfl hV_X8_must ⟨Nat.le_of_ble_eq_true rfl, Nat.le_of_ble_eq_true rfl⟩ hK hw (by decide) (by decide) rfl rfl rfl hl.1 rfl (Nat.le_of_ble_eq_true rfl) dX8_gate_144 rfl rfl (fun v264 H locs hp hw => ?_)
                  have hF := hF.trans (kb_some hp _)
                  have hl := lv_sub (l' := [(0, .ref (Z.1 30 0)), (1, .int x1_2)]) hl [0, 1] rfl
                  exact loop147 2000 v264 x1_2 _ _ _ hF hw hl
            · skip
              have hF := hF.trans (if_pos c250)
              refine lv_iconst (v := 1) hx hb dX8_gate_111 (by decide) ?_
              refine lv_goto (tgt := 116) hx hb dX8_gate_112 (by decide) ?_
              refine lv_iconst (v := 1) hx hb dX8_gate_116 (by decide) ?_
              have hs265 : g_X8_takes v249 1 1 ≠ none := fun q => hs (hF.trans (kb2_n q _))
              refine km_cI (As := [.int 1, .int 1]) (rest := []) (n := 2) (q := (RX8, TX8, 23)) (ci := 8) (t := 30) (i := 0) ⟨hx, hb, hml, hown, hts⟩ (d_X8_takes l E Z v249 1 1 hs265) gX8_gate_X8_takes rfl hV_X8_takes ⟨Nat.le_of_ble_eq_true rfl, Nat.le_of_ble_eq_true rfl⟩ hK hw (by decide) (by decide) rfl rfl rfl hl.1 rfl (Nat.le_of_ble_eq_true rfl) dX8_gate_117 rfl rfl (fun r266 v267 H locs hp hw => ?_)
              have hF := hF.trans (kb2_some hp _)
              refine lv_pop hx hb dX8_gate_120 rfl ?_
              refine lv_aload_n hx hb dX8_gate_121 rfl (lv_at hl 0 rfl) ?_
              refine lv_aload_n hx hb dX8_gate_122 rfl (lv_at hl 0 rfl) ?_
              refine km_get (ci := 8) (C := RX8) (T := TX8) (N := 23) (t := 30) (i := 0) hx hb hts fi_X8_gate_X8 hown hK hw (by decide) (by decide) rfl rfl 11 (by decide) (hts (.fieldLink RX8 98 "WrongWordModel" "token" "I") ow_X8_gate_98) rfl dX8_gate_123 ?_
              refine lv_iconst (v := 1) hx hb dX8_gate_126 (by decide) ?_
              refine lv_icmp_ne (tgt := 143) hx hb dX8_gate_127 (by decide) (fun c268 => ?_) (fun c268 => ?_)
              · skip
                have hF := hF.trans (if_neg c268)
                refine lv_iconst (v := 0) hx hb dX8_gate_143 (by decide) ?_
                have hs269 : g_X8_must v267 0 ≠ none := fun q => hs (hF.trans (kb_n q _))
                refine km_cV (As := [.int 0]) (rest := []) (n := 1) (q := (RX8, TX8, 23)) (ci := 8) (t := 30) (i := 0) ⟨hx, hb, hml, hown, hts⟩ (d_X8_must l E Z v267 0 hs269) gX8_gate_X8_must rfl hV_X8_must ⟨Nat.le_of_ble_eq_true rfl, Nat.le_of_ble_eq_true rfl⟩ hK hw (by decide) (by decide) rfl rfl rfl hl.1 rfl (Nat.le_of_ble_eq_true rfl) dX8_gate_144 rfl rfl (fun v271 H locs hp hw => ?_)
                have hF := hF.trans (kb_some hp _)
                have hl := lv_sub (l' := [(0, .ref (Z.1 30 0)), (1, .int x1_2)]) hl [0, 1] rfl
                exact loop147 2000 v271 x1_2 _ _ _ hF hw hl
              · skip
                have hF := hF.trans (if_pos c268)
                refine lv_aload_n hx hb dX8_gate_130 rfl (lv_at hl 0 rfl) ?_
                refine km_get (ci := 8) (C := RX8) (T := TX8) (N := 23) (t := 30) (i := 0) hx hb hts fi_X8_gate_X8 hown hK hw (by decide) (by decide) rfl rfl 12 (by decide) (hts (.fieldLink RX8 95 "WrongWordModel" "value" "I") ow_X8_gate_95) rfl dX8_gate_131 ?_
                refine lv_bipush (v := 119) hx hb dX8_gate_134 (by decide) ?_
                refine lv_icmp_ne (tgt := 143) hx hb dX8_gate_136 (by decide) (fun c272 => ?_) (fun c272 => ?_)
                · skip
                  have hF := hF.trans (if_neg c272)
                  refine lv_iconst (v := 0) hx hb dX8_gate_143 (by decide) ?_
                  have hs273 : g_X8_must v267 0 ≠ none := fun q => hs (hF.trans (kb_n q _))
                  refine km_cV (As := [.int 0]) (rest := []) (n := 1) (q := (RX8, TX8, 23)) (ci := 8) (t := 30) (i := 0) ⟨hx, hb, hml, hown, hts⟩ (d_X8_must l E Z v267 0 hs273) gX8_gate_X8_must rfl hV_X8_must ⟨Nat.le_of_ble_eq_true rfl, Nat.le_of_ble_eq_true rfl⟩ hK hw (by decide) (by decide) rfl rfl rfl hl.1 rfl (Nat.le_of_ble_eq_true rfl) dX8_gate_144 rfl rfl (fun v275 H locs hp hw => ?_)
                  have hF := hF.trans (kb_some hp _)
                  have hl := lv_sub (l' := [(0, .ref (Z.1 30 0)), (1, .int x1_2)]) hl [0, 1] rfl
                  exact loop147 2000 v275 x1_2 _ _ _ hF hw hl
                · skip
                  have hF := hF.trans (if_pos c272)
                  refine lv_iconst (v := 1) hx hb dX8_gate_139 (by decide) ?_
                  refine lv_goto (tgt := 144) hx hb dX8_gate_140 (by decide) ?_
                  have hs276 : g_X8_must v267 1 ≠ none := fun q => hs (hF.trans (kb_n q _))
                  refine km_cV (As := [.int 1]) (rest := []) (n := 1) (q := (RX8, TX8, 23)) (ci := 8) (t := 30) (i := 0) ⟨hx, hb, hml, hown, hts⟩ (d_X8_must l E Z v267 1 hs276) gX8_gate_X8_must rfl hV_X8_must ⟨Nat.le_of_ble_eq_true rfl, Nat.le_of_ble_eq_true rfl⟩ hK hw (by decide) (by decide) rfl rfl rfl hl.1 rfl (Nat.le_of_ble_eq_true rfl) dX8_gate_144 rfl rfl (fun v278 H locs hp hw => ?_)
                  have hF := hF.trans (kb_some hp _)
                  have hl := lv_sub (l' := [(0, .ref (Z.1 30 0)), (1, .int x1_2)]) hl [0, 1] rfl
                  exact loop147 2000 v278 x1_2 _ _ _ hF hw hl
      · skip
        have hF := hF.trans (if_neg c139)
        refine lv_aload_n hx hb dX8_gate_8 rfl (lv_at hl 0 rfl) ?_
        refine km_get (ci := 8) (C := RX8) (T := TX8) (N := 23) (t := 30) (i := 0) hx hb hts fi_X8_gate_X8 hown hK hw (by decide) (by decide) rfl rfl 14 (by decide) (hts (.fieldLink RX8 28 "WrongWordModel" "draft" "[I") ow_X8_gate_28) rfl dX8_gate_9 ?_
        refine lv_iload_n hx hb dX8_gate_12 rfl (lv_at hl 1 rfl) ?_
        refine lv_iconst (v := 0) hx hb dX8_gate_13 (by decide) ?_
        have hb279 : ¬ (x1_2 < 0 ∨ 65 ≤ Int32.toNatClampNeg x1_2) := fun q => hs (hF.trans (if_pos q))
        have hF := hF.trans (if_neg hb279)
        refine km_iast (t := 37) (i := 0) (n := 65) hx hb hK hw (by decide) (by decide) (fun _ => rfl) hb279 dX8_gate_14 (fun H locs hw => ?_)
        obtain ⟨v280, ev280⟩ : ∃ z, z = up3 w2 37 0 (Int32.toNatClampNeg x1_2) 0 := ⟨_, rfl⟩
        rw [← ev280] at hw
        have hF := hF.trans (kb_some (congrArg some ev280.symm) _)
        refine lv_iinc (v := x1_2 + 1) (lv' := [(1, .int (x1_2 + 1)), (0, .ref (Z.1 30 0))]) hx hb dX8_gate_15 hl (k := 1) rfl rfl (by decide) rfl (fun ls hl => ?_)
        refine lv_goto (tgt := 2) hx hb dX8_gate_18 (by decide) ?_
        have hl := lv_sub (l' := [(0, .ref (Z.1 30 0)), (1, .int (x1_2 + 1))]) hl [1, 0] rfl
        exact ih2 v280 (x1_2 + 1) _ _ _ hF hw hl
  refine lv_iconst (v := 0) hx hb dX8_gate_0 (by decide) ?_
  refine lv_istore_n (lv' := [(1, .int 0), (0, .ref (Z.1 30 0))]) hx hb dX8_gate_1 rfl hl (by decide) rfl (fun ls hl => ?_)
  have hl := lv_sub (l' := [(0, .ref (Z.1 30 0)), (1, .int 0)]) hl [1, 0] rfl
  exact loop2 2000 v 0 _ _ _ hF hw hl
abbrev rmX8_fault : Room := { frames := 0, cells := 0, slots := 0, locals := 0 }
def g_X8_fault (v : Mm)  : Option (Int32) := some (v 30 0 7)
set_option maxHeartbeats 4000000 in
set_option maxRecDepth 100000 in
theorem d_X8_fault (l : Launch) (E : kq_T) (Z : km_Z) (v : Mm) (hs : g_X8_fault v ≠ none) : km_I l E Z cntM yX8_fault wsX8_fault rmX8_fault [.ref (Z.1 30 0)] v (fun r v1 => g_X8_fault v = some r ∧ v = v1) := by
  refine km_goI (cc := cX8_fault) (maxL := 1) (by decide) rfl (Nat.le_of_ble_eq_true rfl) rfl rfl rfl ?_
  intro p e s m below meth c A ls Q C hK hw hl hret
  obtain ⟨hx, hb, hml, hown, hts, -, -, -⟩ := C
  have hown : s.vm.findClass RX8 = some m.cls := hown
  have hl : lv_has ls 1 [(0, .ref (Z.1 30 0))] := hl
  have hF := g_X8_fault.eq_1 v 
  refine lv_aload_n hx hb dX8_fault_0 rfl (lv_at hl 0 rfl) ?_
  refine km_get (ci := 8) (C := RX8) (T := TX8) (N := 23) (t := 30) (i := 0) hx hb hts fi_X8_fault_X8 hown hK hw (by decide) (by decide) rfl rfl 7 (by decide) (hts (.fieldLink RX8 108 "WrongWordModel" "faultKind" "I") ow_X8_fault_108) rfl dX8_fault_1 ?_
  exact hret _ _ _ _ _ _ hw dX8_fault_4 ⟨hF, rfl⟩
abbrev rmX8_isGate : Room := { frames := 0, cells := 0, slots := 0, locals := 0 }
def g_X8_isGate (v : Mm)  : Option (Int32) := if v 36 0 (Int32.toNatClampNeg 3) ≤ 0 then (some 0) else (some 1)
set_option maxHeartbeats 4000000 in
set_option maxRecDepth 100000 in
theorem d_X8_isGate (l : Launch) (E : kq_T) (Z : km_Z) (v : Mm) (hs : g_X8_isGate v ≠ none) : km_I l E Z cntM yX8_isGate wsX8_isGate rmX8_isGate [.ref (Z.1 30 0)] v (fun r v1 => (g_X8_isGate v = some r ∧ v = v1) ∧ (r = 0 ∨ r = 1)) := by
  refine km_goZ (cc := cX8_isGate) (maxL := 1) (post := fun r v1 => g_X8_isGate v = some r ∧ v = v1) (by decide) rfl (Nat.le_of_ble_eq_true rfl) rfl rfl rfl ?_
  intro p e s m below meth c A ls Q C hK hw hl hret
  obtain ⟨hx, hb, hml, hown, hts, -, -, -⟩ := C
  have hown : s.vm.findClass RX8 = some m.cls := hown
  have hl : lv_has ls 1 [(0, .ref (Z.1 30 0))] := hl
  have hF := g_X8_isGate.eq_1 v 
  refine lv_aload_n hx hb dX8_isGate_0 rfl (lv_at hl 0 rfl) ?_
  refine km_get (ci := 8) (C := RX8) (T := TX8) (N := 23) (t := 30) (i := 0) hx hb hts fi_X8_isGate_X8 hown hK hw (by decide) (by decide) rfl rfl 13 (by decide) (hts (.fieldLink RX8 25 "WrongWordModel" "now" "[I") ow_X8_isGate_25) rfl dX8_isGate_1 ?_
  refine lv_iconst (v := 3) hx hb dX8_isGate_4 (by decide) ?_
  refine km_iald (t := 36) (i := 0) hx hb hK hw (by decide) (by decide) rfl (by unfold vp_in; decide) dX8_isGate_5 ?_
  refine lv_if_le (tgt := 13) hx hb dX8_isGate_6 (by decide) (fun c1 => ?_) (fun c1 => ?_)
  · skip
    have hF := hF.trans (if_pos c1)
    refine lv_iconst (v := 0) hx hb dX8_isGate_13 (by decide) ?_
    exact hret _ _ _ _ _ _ hw dX8_isGate_14 (Or.inl rfl) ⟨hF, rfl⟩
  · skip
    have hF := hF.trans (if_neg c1)
    refine lv_iconst (v := 1) hx hb dX8_isGate_9 (by decide) ?_
    refine lv_goto (tgt := 14) hx hb dX8_isGate_10 (by decide) ?_
    exact hret _ _ _ _ _ _ hw dX8_isGate_14 (Or.inr rfl) ⟨hF, rfl⟩
abbrev rmX8_isWord : Room := { frames := 1, cells := 0, slots := 0, locals := 22 }
def g_X8_isWord (v : Mm) (a1 : Int32) : Option (Int32) := Option.bind (g_X8_in v a1 0 ((v 36 0 (Int32.toNatClampNeg 3)) - 1)) (fun r2 => some r2)
set_option maxHeartbeats 4000000 in
set_option maxRecDepth 100000 in
theorem d_X8_isWord (l : Launch) (E : kq_T) (Z : km_Z) (v : Mm) (a1 : Int32) (hs : g_X8_isWord v a1 ≠ none) : km_I l E Z cntM yX8_isWord wsX8_isWord rmX8_isWord [.ref (Z.1 30 0), .int a1] v (fun r v1 => (g_X8_isWord v a1 = some r ∧ v = v1) ∧ (r = 0 ∨ r = 1)) := by
  refine km_goZ (cc := cX8_isWord) (maxL := 2) (post := fun r v1 => g_X8_isWord v a1 = some r ∧ v = v1) (by decide) rfl (Nat.le_of_ble_eq_true rfl) rfl rfl rfl ?_
  intro p e s m below meth c A ls Q C hK hw hl hret
  obtain ⟨hx, hb, hml, hown, hts, -, -, -⟩ := C
  have hown : s.vm.findClass RX8 = some m.cls := hown
  have hl : lv_has ls 2 [(0, .ref (Z.1 30 0)), (1, .int a1)] := hl
  have hF := g_X8_isWord.eq_1 v a1
  refine lv_iload_n hx hb dX8_isWord_0 rfl (lv_at hl 1 rfl) ?_
  refine lv_iconst (v := 0) hx hb dX8_isWord_1 (by decide) ?_
  refine lv_aload_n hx hb dX8_isWord_2 rfl (lv_at hl 0 rfl) ?_
  refine km_get (ci := 8) (C := RX8) (T := TX8) (N := 23) (t := 30) (i := 0) hx hb hts fi_X8_isWord_X8 hown hK hw (by decide) (by decide) rfl rfl 13 (by decide) (hts (.fieldLink RX8 25 "WrongWordModel" "now" "[I") ow_X8_isWord_25) rfl dX8_isWord_3 ?_
  refine lv_iconst (v := 3) hx hb dX8_isWord_6 (by decide) ?_
  refine km_iald (t := 36) (i := 0) hx hb hK hw (by decide) (by decide) rfl (by unfold vp_in; decide) dX8_isWord_7 ?_
  refine lv_iconst (v := 1) hx hb dX8_isWord_8 (by decide) ?_
  refine lv_isub hx hb dX8_isWord_9 ?_
  have hs1 : g_X8_in v a1 0 ((v 36 0 (Int32.toNatClampNeg 3)) - 1) ≠ none := fun q => hs (hF.trans (kb_n q _))
  refine km_cS (As := [.int a1, .int 0, .int ((v 36 0 (Int32.toNatClampNeg 3)) - 1)]) (rest := []) (n := 3) ⟨hx, hb, hml, hown, hts⟩ (d_X8_in l E Z v a1 0 ((v 36 0 (Int32.toNatClampNeg 3)) - 1) hs1) gX8_isWord_X8_in rfl hV_X8_in ⟨Nat.le_of_ble_eq_true rfl, Nat.le_of_ble_eq_true rfl⟩ hK hw rfl hl.1 rfl (Nat.le_of_ble_eq_true rfl) dX8_isWord_10 rfl rfl (fun r2 v3 H locs hp hw => ?_)
  obtain ⟨hp, hzr2⟩ := hp
  obtain ⟨hp, rfl⟩ := hp
  have hF := hF.trans (kb_some hp _)
  exact hret _ _ _ _ _ _ hw dX8_isWord_13 hzr2 ⟨hF, rfl⟩
