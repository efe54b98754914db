abbrev rmX8_follows : Room := { frames := 4, cells := 0, slots := 0, locals := 88 }
def g_X8_follows (v : Mm) (a1 : Int32) (a2 : Int32) : Option (Int32 × Mm) := if v 30 0 11 = 3 then (kb2 (g_X8_takes v 1 1) (fun r9 v10 => kb2 (g_X8_figure v10 a1 a2) (fun r12 v13 => some (r12, v13)))) else (kb2 (g_X8_takes v 0 1) (fun r3 v4 => kb2 (g_X8_figure v4 a1 a2) (fun r6 v7 => some (r6, v7))))
set_option maxHeartbeats 4000000 in
set_option maxRecDepth 100000 in
theorem d_X8_follows (l : Launch) (E : kq_T) (Z : km_Z) (v : Mm) (a1 : Int32) (a2 : Int32) (hs : g_X8_follows v a1 a2 ≠ none) : km_I l E Z cntM yX8_follows wsX8_follows rmX8_follows [.ref (Z.1 30 0), .int a1, .int a2] v (fun r v1 => g_X8_follows v a1 a2 = some (r, v1)) := by
  refine km_goI (cc := cX8_follows) (maxL := 3) (by decide) rfl (Nat.le_of_ble_eq_true rfl) rfl rfl rfl ?_
  intro p e s m below meth c A ls Q C hK hw hl hret
  obtain ⟨hx, hb, hml, hown, hts, -, -, -⟩ := C
  have hown : s.vm.findClass RX8 = some m.cls := hown
  have hl : lv_has ls 3 [(0, .ref (Z.1 30 0)), (1, .int a1), (2, .int a2)] := hl
  have hF := g_X8_follows.eq_1 v a1 a2
  refine lv_aload_n hx hb dX8_follows_0 rfl (lv_at hl 0 rfl) ?_
  refine lv_aload_n hx hb dX8_follows_1 rfl (lv_at hl 0 rfl) ?_
  refine km_get (ci := 8) (C := RX8) (T := TX8) (N := 23) (t := 30) (i := 0) hx hb hts fi_X8_follows_X8 hown hK hw (by decide) (by decide) rfl rfl 11 (by decide) (hts (.fieldLink RX8 98 "WrongWordModel" "token" "I") ow_X8_follows_98) rfl dX8_follows_2 ?_
  refine lv_iconst (v := 3) hx hb dX8_follows_5 (by decide) ?_
  refine lv_icmp_ne (tgt := 13) hx hb dX8_follows_6 (by decide) (fun c1 => ?_) (fun c1 => ?_)
  · skip
    have hF := hF.trans (if_neg c1)
    refine lv_iconst (v := 0) hx hb dX8_follows_13 (by decide) ?_
    refine lv_iconst (v := 1) hx hb dX8_follows_14 (by decide) ?_
    have hs2 : g_X8_takes v 0 1 ≠ none := fun q => hs (hF.trans (kb2_n q _))
    refine km_cI (As := [.int 0, .int 1]) (rest := []) (n := 2) (q := (RX8, TX8, 23)) (ci := 8) (t := 30) (i := 0) ⟨hx, hb, hml, hown, hts⟩ (d_X8_takes l E Z v 0 1 hs2) gX8_follows_X8_takes rfl hV_X8_takes ⟨Nat.le_of_ble_eq_true rfl, Nat.le_of_ble_eq_true rfl⟩ hK hw (by decide) (by decide) rfl rfl rfl hl.1 rfl (Nat.le_of_ble_eq_true rfl) dX8_follows_15 rfl rfl (fun r3 v4 H locs hp hw => ?_)
    have hF := hF.trans (kb2_some hp _)
    refine lv_pop hx hb dX8_follows_18 rfl ?_
    refine lv_aload_n hx hb dX8_follows_19 rfl (lv_at hl 0 rfl) ?_
    refine lv_iload_n hx hb dX8_follows_20 rfl (lv_at hl 1 rfl) ?_
    refine lv_iload_n hx hb dX8_follows_21 rfl (lv_at hl 2 rfl) ?_
    have hs5 : g_X8_figure v4 a1 a2 ≠ none := fun q => hs (hF.trans (kb2_n q _))
    refine km_cI (As := [.int a1, .int a2]) (rest := []) (n := 2) (q := (RX8, TX8, 23)) (ci := 8) (t := 30) (i := 0) ⟨hx, hb, hml, hown, hts⟩ (d_X8_figure l E Z v4 a1 a2 hs5) gX8_follows_X8_figure rfl hV_X8_figure ⟨Nat.le_of_ble_eq_true rfl, Nat.le_of_ble_eq_true rfl⟩ hK hw (by decide) (by decide) rfl rfl rfl hl.1 rfl (Nat.le_of_ble_eq_true rfl) dX8_follows_22 rfl rfl (fun r6 v7 H locs hp hw => ?_)
    have hF := hF.trans (kb2_some hp _)
    exact hret _ _ _ _ _ _ hw dX8_follows_25 hF
  · skip
    have hF := hF.trans (if_pos c1)
    refine lv_iconst (v := 1) hx hb dX8_follows_9 (by decide) ?_
    refine lv_goto (tgt := 14) hx hb dX8_follows_10 (by decide) ?_
    refine lv_iconst (v := 1) hx hb dX8_follows_14 (by decide) ?_
    have hs8 : g_X8_takes v 1 1 ≠ none := fun q => hs (hF.trans (kb2_n q _))
    refine km_cI (As := [.int 1, .int 1]) (rest := []) (n := 2) (q := (RX8, TX8, 23)) (ci := 8) (t := 30) (i := 0) ⟨hx, hb, hml, hown, hts⟩ (d_X8_takes l E Z v 1 1 hs8) gX8_follows_X8_takes rfl hV_X8_takes ⟨Nat.le_of_ble_eq_true rfl, Nat.le_of_ble_eq_true rfl⟩ hK hw (by decide) (by decide) rfl rfl rfl hl.1 rfl (Nat.le_of_ble_eq_true rfl) dX8_follows_15 rfl rfl (fun r9 v10 H locs hp hw => ?_)
    have hF := hF.trans (kb2_some hp _)
    refine lv_pop hx hb dX8_follows_18 rfl ?_
    refine lv_aload_n hx hb dX8_follows_19 rfl (lv_at hl 0 rfl) ?_
    refine lv_iload_n hx hb dX8_follows_20 rfl (lv_at hl 1 rfl) ?_
    refine lv_iload_n hx hb dX8_follows_21 rfl (lv_at hl 2 rfl) ?_
    have hs11 : g_X8_figure v10 a1 a2 ≠ none := fun q => hs (hF.trans (kb2_n q _))
    refine km_cI (As := [.int a1, .int a2]) (rest := []) (n := 2) (q := (RX8, TX8, 23)) (ci := 8) (t := 30) (i := 0) ⟨hx, hb, hml, hown, hts⟩ (d_X8_figure l E Z v10 a1 a2 hs11) gX8_follows_X8_figure rfl hV_X8_figure ⟨Nat.le_of_ble_eq_true rfl, Nat.le_of_ble_eq_true rfl⟩ hK hw (by decide) (by decide) rfl rfl rfl hl.1 rfl (Nat.le_of_ble_eq_true rfl) dX8_follows_22 rfl rfl (fun r12 v13 H locs hp hw => ?_)
    have hF := hF.trans (kb2_some hp _)
    exact hret _ _ _ _ _ _ hw dX8_follows_25 hF
abbrev rmX8_isTold : Room := { frames := 0, cells := 0, slots := 0, locals := 0 }
def b_X8_isTold_L6  (rec6 : Int32 → Int32 → Option (Int32)) (v : Mm) (a1 : Int32) (a2 : Int32) (a3 : Int32) (x4_6 : Int32) (x5_6 : Int32) : Option (Int32) := if v 37 0 (Int32.toNatClampNeg 3) ≤ x5_6 then (some x4_6) else (if x4_6 = 0 then (if (8 : Int32) + ((3 : Int32) * x5_6) < 0 ∨ 65 ≤ Int32.toNatClampNeg ((8 : Int32) + ((3 : Int32) * x5_6)) then none else (if v 37 0 (Int32.toNatClampNeg ((8 : Int32) + ((3 : Int32) * x5_6))) = a1 then (if ((8 : Int32) + ((3 : Int32) * x5_6)) + 1 < 0 ∨ 65 ≤ Int32.toNatClampNeg (((8 : Int32) + ((3 : Int32) * x5_6)) + 1) then none else (if v 37 0 (Int32.toNatClampNeg (((8 : Int32) + ((3 : Int32) * x5_6)) + 1)) = a2 then (if ((8 : Int32) + ((3 : Int32) * x5_6)) + 2 < 0 ∨ 65 ≤ Int32.toNatClampNeg (((8 : Int32) + ((3 : Int32) * x5_6)) + 2) then none else (if v 37 0 (Int32.toNatClampNeg (((8 : Int32) + ((3 : Int32) * x5_6)) + 2)) = a3 then (rec6 1 (x5_6 + 1)) else (rec6 0 (x5_6 + 1)))) else (rec6 0 (x5_6 + 1)))) else (rec6 0 (x5_6 + 1)))) else (rec6 1 (x5_6 + 1)))
def g_X8_isTold_L6  (v : Mm) (a1 : Int32) (a2 : Int32) (a3 : Int32) : Nat → Int32 → Int32 → Option (Int32)
  | 0 => fun _ _ => none
  | n + 1 => b_X8_isTold_L6  (g_X8_isTold_L6  v a1 a2 a3 n) v a1 a2 a3
def g_X8_isTold (v : Mm) (a1 : Int32) (a2 : Int32) (a3 : Int32) : Option (Int32) := g_X8_isTold_L6  v a1 a2 a3 2000 0 0
set_option maxHeartbeats 4000000 in
set_option maxRecDepth 100000 in
theorem d_X8_isTold (l : Launch) (E : kq_T) (Z : km_Z) (v : Mm) (a1 : Int32) (a2 : Int32) (a3 : Int32) (hs : g_X8_isTold v a1 a2 a3 ≠ none) : km_I l E Z cntM yX8_isTold wsX8_isTold rmX8_isTold [.ref (Z.1 30 0), .int a1, .int a2, .int a3] v (fun r v1 => (g_X8_isTold v a1 a2 a3 = some r ∧ v = v1) ∧ (r = 0 ∨ r = 1)) := by
  refine km_goZ (cc := cX8_isTold) (maxL := 7) (post := fun r v1 => g_X8_isTold v a1 a2 a3 = some r ∧ v = v1) (by decide) rfl (Nat.le_of_ble_eq_true rfl) rfl rfl rfl ?_
  intro p e s m below meth c A ls Q C hK hw hl hret
  obtain ⟨hx, hb, hml, hown, hts, -, -, -⟩ := C
  have hown : s.vm.findClass RX8 = some m.cls := hown
  have hl : lv_has ls 7 [(0, .ref (Z.1 30 0)), (1, .int a1), (2, .int a2), (3, .int a3)] := hl
  have hF := g_X8_isTold.eq_1 v a1 a2 a3
  have loop6 : ∀ (n6 : Nat) (x4_6 : Int32) (x5_6 : Int32) (H : Heap) (locs : List Loc) (ls : Array Slot), g_X8_isTold v a1 a2 a3 = g_X8_isTold_L6  v a1 a2 a3 n6 x4_6 x5_6 → km_w E A s.heap [] Z cntM v H locs → lv_has ls 7 [(0, .ref (Z.1 30 0)), (1, .int a1), (2, .int a2), (3, .int a3), (4, .int x4_6), (5, .int x5_6)] → (x4_6 = 0 ∨ x4_6 = 1) → W p l e rmX8_isTold s m [.ref (Z.1 30 0), .int a1, .int a2, .int a3].toArray below meth c H locs 0 0 Q (F0 m 6 ls []) := by
    intro n6
    induction n6 with
    | zero => intro x4_6 x5_6 H locs ls hF hw hl hz4_6; exact absurd (show g_X8_isTold v a1 a2 a3 = none from hF) hs
    | succ n6 ih6 =>
      intro x4_6 x5_6 H locs ls hF hw hl hz4_6
      have hF := hF.trans (b_X8_isTold_L6.eq_1  (g_X8_isTold_L6  v a1 a2 a3 n6) v a1 a2 a3 x4_6 x5_6)
      refine lv_iload hx hb dX8_isTold_6 (lv_at hl 5 rfl) ?_
      refine lv_aload_n hx hb dX8_isTold_8 rfl (lv_at hl 0 rfl) ?_
      refine km_get (ci := 8) (C := RX8) (T := TX8) (N := 23) (t := 30) (i := 0) hx hb hts fi_X8_isTold_X8 hown hK hw (by decide) (by decide) rfl rfl 14 (by decide) (hts (.fieldLink RX8 28 "WrongWordModel" "draft" "[I") ow_X8_isTold_28) rfl dX8_isTold_9 ?_
      refine lv_iconst (v := 3) hx hb dX8_isTold_12 (by decide) ?_
      refine km_iald (t := 37) (i := 0) hx hb hK hw (by decide) (by decide) rfl (by unfold vp_in; decide) dX8_isTold_13 ?_
      refine lv_icmp_ge (tgt := 81) hx hb dX8_isTold_14 (by decide) (fun c1 => ?_) (fun c1 => ?_)
      · skip
        have hF := hF.trans (if_pos c1)
        refine lv_iload hx hb dX8_isTold_81 (lv_at hl 4 rfl) ?_
        exact hret _ _ _ _ _ _ hw dX8_isTold_83 hz4_6 ⟨hF, rfl⟩
      · skip
        have hF := hF.trans (if_neg c1)
        refine lv_bipush (v := 8) hx hb dX8_isTold_17 (by decide) ?_
        refine lv_iconst (v := 3) hx hb dX8_isTold_19 (by decide) ?_
        refine lv_iload hx hb dX8_isTold_20 (lv_at hl 5 rfl) ?_
        refine lv_imul hx hb dX8_isTold_22 ?_
        refine lv_iadd hx hb dX8_isTold_23 ?_
        refine lv_istore (lv' := [(6, .int ((8 : Int32) + ((3 : Int32) * x5_6))), (0, .ref (Z.1 30 0)), (1, .int a1), (2, .int a2), (3, .int a3), (4, .int x4_6), (5, .int x5_6)]) hx hb dX8_isTold_24 hl (by decide) rfl (fun ls hl => ?_)
        refine lv_iload hx hb dX8_isTold_26 (lv_at hl 5 rfl) ?_
        refine lv_if_ne (tgt := 68) hx hb dX8_isTold_28 (by decide) (fun c2 => ?_) (fun c2 => ?_)
        · skip
          have hF := hF.trans (if_neg c2)
          refine lv_iconst (v := 1) hx hb dX8_isTold_68 (by decide) ?_
          refine lv_goto (tgt := 73) hx hb dX8_isTold_69 (by decide) ?_
          refine lv_istore (lv' := [(4, .int 1), (6, .int ((8 : Int32) + ((3 : Int32) * x5_6))), (0, .ref (Z.1 30 0)), (1, .int a1), (2, .int a2), (3, .int a3), (5, .int x5_6)]) hx hb dX8_isTold_73 hl (by decide) rfl (fun ls hl => ?_)
          refine lv_iinc (v := x5_6 + 1) (lv' := [(5, .int (x5_6 + 1)), (4, .int 1), (6, .int ((8 : Int32) + ((3 : Int32) * x5_6))), (0, .ref (Z.1 30 0)), (1, .int a1), (2, .int a2), (3, .int a3)]) hx hb dX8_isTold_75 hl (k := 6) rfl rfl (by decide) rfl (fun ls hl => ?_)
          refine lv_goto (tgt := 6) hx hb dX8_isTold_78 (by decide) ?_
          have hl := lv_sub (l' := [(0, .ref (Z.1 30 0)), (1, .int a1), (2, .int a2), (3, .int a3), (4, .int 1), (5, .int (x5_6 + 1))]) hl [3, 4, 5, 6, 1, 0] rfl
          exact ih6 1 (x5_6 + 1) _ _ _ hF hw hl (Or.inr rfl)
        · skip
          have hF := hF.trans (if_pos c2)
          refine lv_aload_n hx hb dX8_isTold_31 rfl (lv_at hl 1 rfl) ?_
          refine km_get (ci := 8) (C := RX8) (T := TX8) (N := 23) (t := 30) (i := 0) hx hb hts fi_X8_isTold_X8 hown hK hw (by decide) (by decide) rfl rfl 14 (by decide) (hts (.fieldLink RX8 28 "WrongWordModel" "draft" "[I") ow_X8_isTold_28) rfl dX8_isTold_32 ?_
          refine lv_iload hx hb dX8_isTold_35 (lv_at hl 0 rfl) ?_
          have hb3 : ¬ ((8 : Int32) + ((3 : Int32) * x5_6) < 0 ∨ 65 ≤ Int32.toNatClampNeg ((8 : Int32) + ((3 : Int32) * x5_6))) := fun q => hs (hF.trans (if_pos q))
          have hF := hF.trans (if_neg hb3)
          refine km_iald (t := 37) (i := 0) hx hb hK hw (by decide) (by decide) rfl hb3 dX8_isTold_37 ?_
          refine lv_iload_n hx hb dX8_isTold_38 rfl (lv_at hl 2 rfl) ?_
          refine lv_icmp_ne (tgt := 72) hx hb dX8_isTold_39 (by decide) (fun c4 => ?_) (fun c4 => ?_)
          · skip
            have hF := hF.trans (if_neg c4)
            refine lv_iconst (v := 0) hx hb dX8_isTold_72 (by decide) ?_
            refine lv_istore (lv' := [(4, .int 0), (6, .int ((8 : Int32) + ((3 : Int32) * x5_6))), (0, .ref (Z.1 30 0)), (1, .int a1), (2, .int a2), (3, .int a3), (5, .int x5_6)]) hx hb dX8_isTold_73 hl (by decide) rfl (fun ls hl => ?_)
            refine lv_iinc (v := x5_6 + 1) (lv' := [(5, .int (x5_6 + 1)), (4, .int 0), (6, .int ((8 : Int32) + ((3 : Int32) * x5_6))), (0, .ref (Z.1 30 0)), (1, .int a1), (2, .int a2), (3, .int a3)]) hx hb dX8_isTold_75 hl (k := 6) rfl rfl (by decide) rfl (fun ls hl => ?_)
            refine lv_goto (tgt := 6) hx hb dX8_isTold_78 (by decide) ?_
            have hl := lv_sub (l' := [(0, .ref (Z.1 30 0)), (1, .int a1), (2, .int a2), (3, .int a3), (4, .int 0), (5, .int (x5_6 + 1))]) hl [3, 4, 5, 6, 1, 0] rfl
            exact ih6 0 (x5_6 + 1) _ _ _ hF hw hl (Or.inl rfl)
          · skip
            have hF := hF.trans (if_pos c4)
            refine lv_aload_n hx hb dX8_isTold_42 rfl (lv_at hl 1 rfl) ?_
            refine km_get (ci := 8) (C := RX8) (T := TX8) (N := 23) (t := 30) (i := 0) hx hb hts fi_X8_isTold_X8 hown hK hw (by decide) (by decide) rfl rfl 14 (by decide) (hts (.fieldLink RX8 28 "WrongWordModel" "draft" "[I") ow_X8_isTold_28) rfl dX8_isTold_43 ?_
            refine lv_iload hx hb dX8_isTold_46 (lv_at hl 0 rfl) ?_
            refine lv_iconst (v := 1) hx hb dX8_isTold_48 (by decide) ?_
            refine lv_iadd hx hb dX8_isTold_49 ?_
            have hb5 : ¬ (((8 : Int32) + ((3 : Int32) * x5_6)) + 1 < 0 ∨ 65 ≤ Int32.toNatClampNeg (((8 : Int32) + ((3 : Int32) * x5_6)) + 1)) := fun q => hs (hF.trans (if_pos q))
            have hF := hF.trans (if_neg hb5)
            refine km_iald (t := 37) (i := 0) hx hb hK hw (by decide) (by decide) rfl hb5 dX8_isTold_50 ?_
            refine lv_iload_n hx hb dX8_isTold_51 rfl (lv_at hl 3 rfl) ?_
            refine lv_icmp_ne (tgt := 72) hx hb dX8_isTold_52 (by decide) (fun c6 => ?_) (fun c6 => ?_)
            · skip
              have hF := hF.trans (if_neg c6)
              refine lv_iconst (v := 0) hx hb dX8_isTold_72 (by decide) ?_
              refine lv_istore (lv' := [(4, .int 0), (6, .int ((8 : Int32) + ((3 : Int32) * x5_6))), (0, .ref (Z.1 30 0)), (1, .int a1), (2, .int a2), (3, .int a3), (5, .int x5_6)]) hx hb dX8_isTold_73 hl (by decide) rfl (fun ls hl => ?_)
              refine lv_iinc (v := x5_6 + 1) (lv' := [(5, .int (x5_6 + 1)), (4, .int 0), (6, .int ((8 : Int32) + ((3 : Int32) * x5_6))), (0, .ref (Z.1 30 0)), (1, .int a1), (2, .int a2), (3, .int a3)]) hx hb dX8_isTold_75 hl (k := 6) rfl rfl (by decide) rfl (fun ls hl => ?_)
              refine lv_goto (tgt := 6) hx hb dX8_isTold_78 (by decide) ?_
              have hl := lv_sub (l' := [(0, .ref (Z.1 30 0)), (1, .int a1), (2, .int a2), (3, .int a3), (4, .int 0), (5, .int (x5_6 + 1))]) hl [3, 4, 5, 6, 1, 0] rfl
              exact ih6 0 (x5_6 + 1) _ _ _ hF hw hl (Or.inl rfl)
            · skip
              have hF := hF.trans (if_pos c6)
              refine lv_aload_n hx hb dX8_isTold_55 rfl (lv_at hl 1 rfl) ?_
              refine km_get (ci := 8) (C := RX8) (T := TX8) (N := 23) (t := 30) (i := 0) hx hb hts fi_X8_isTold_X8 hown hK hw (by decide) (by decide) rfl rfl 14 (by decide) (hts (.fieldLink RX8 28 "WrongWordModel" "draft" "[I") ow_X8_isTold_28) rfl dX8_isTold_56 ?_
              refine lv_iload hx hb dX8_isTold_59 (lv_at hl 0 rfl) ?_
              refine lv_iconst (v := 2) hx hb dX8_isTold_61 (by decide) ?_
              refine lv_iadd hx hb dX8_isTold_62 ?_
              have hb7 : ¬ (((8 : Int32) + ((3 : Int32) * x5_6)) + 2 < 0 ∨ 65 ≤ Int32.toNatClampNeg (((8 : Int32) + ((3 : Int32) * x5_6)) + 2)) := fun q => hs (hF.trans (if_pos q))
              have hF := hF.trans (if_neg hb7)
              refine km_iald (t := 37) (i := 0) hx hb hK hw (by decide) (by decide) rfl hb7 dX8_isTold_63 ?_
              refine lv_iload_n hx hb dX8_isTold_64 rfl (lv_at hl 4 rfl) ?_
              refine lv_icmp_ne (tgt := 72) hx hb dX8_isTold_65 (by decide) (fun c8 => ?_) (fun c8 => ?_)
              · skip
                have hF := hF.trans (if_neg c8)
                refine lv_iconst (v := 0) hx hb dX8_isTold_72 (by decide) ?_
                refine lv_istore (lv' := [(4, .int 0), (6, .int ((8 : Int32) + ((3 : Int32) * x5_6))), (0, .ref (Z.1 30 0)), (1, .int a1), (2, .int a2), (3, .int a3), (5, .int x5_6)]) hx hb dX8_isTold_73 hl (by decide) rfl (fun ls hl => ?_)
                refine lv_iinc (v := x5_6 + 1) (lv' := [(5, .int (x5_6 + 1)), (4, .int 0), (6, .int ((8 : Int32) + ((3 : Int32) * x5_6))), (0, .ref (Z.1 30 0)), (1, .int a1), (2, .int a2), (3, .int a3)]) hx hb dX8_isTold_75 hl (k := 6) rfl rfl (by decide) rfl (fun ls hl => ?_)
                refine lv_goto (tgt := 6) hx hb dX8_isTold_78 (by decide) ?_
                have hl := lv_sub (l' := [(0, .ref (Z.1 30 0)), (1, .int a1), (2, .int a2), (3, .int a3), (4, .int 0), (5, .int (x5_6 + 1))]) hl [3, 4, 5, 6, 1, 0] rfl
                exact ih6 0 (x5_6 + 1) _ _ _ hF hw hl (Or.inl rfl)
              · skip
                have hF := hF.trans (if_pos c8)
                refine lv_iconst (v := 1) hx hb dX8_isTold_68 (by decide) ?_
                refine lv_goto (tgt := 73) hx hb dX8_isTold_69 (by decide) ?_
                refine lv_istore (lv' := [(4, .int 1), (6, .int ((8 : Int32) + ((3 : Int32) * x5_6))), (0, .ref (Z.1 30 0)), (1, .int a1), (2, .int a2), (3, .int a3), (5, .int x5_6)]) hx hb dX8_isTold_73 hl (by decide) rfl (fun ls hl => ?_)
                refine lv_iinc (v := x5_6 + 1) (lv' := [(5, .int (x5_6 + 1)), (4, .int 1), (6, .int ((8 : Int32) + ((3 : Int32) * x5_6))), (0, .ref (Z.1 30 0)), (1, .int a1), (2, .int a2), (3, .int a3)]) hx hb dX8_isTold_75 hl (k := 6) rfl rfl (by decide) rfl (fun ls hl => ?_)
                refine lv_goto (tgt := 6) hx hb dX8_isTold_78 (by decide) ?_
                have hl := lv_sub (l' := [(0, .ref (Z.1 30 0)), (1, .int a1), (2, .int a2), (3, .int a3), (4, .int 1), (5, .int (x5_6 + 1))]) hl [3, 4, 5, 6, 1, 0] rfl
                exact ih6 1 (x5_6 + 1) _ _ _ hF hw hl (Or.inr rfl)
  refine lv_iconst (v := 0) hx hb dX8_isTold_0 (by decide) ?_
  refine lv_istore (lv' := [(4, .int 0), (0, .ref (Z.1 30 0)), (1, .int a1), (2, .int a2), (3, .int a3)]) hx hb dX8_isTold_1 hl (by decide) rfl (fun ls hl => ?_)
  refine lv_iconst (v := 0) hx hb dX8_isTold_3 (by decide) ?_
  refine lv_istore (lv' := [(5, .int 0), (4, .int 0), (0, .ref (Z.1 30 0)), (1, .int a1), (2, .int a2), (3, .int a3)]) hx hb dX8_isTold_4 hl (by decide) rfl (fun ls hl => ?_)
  have hl := lv_sub (l' := [(0, .ref (Z.1 30 0)), (1, .int a1), (2, .int a2), (3, .int a3), (4, .int 0), (5, .int 0)]) hl [2, 3, 4, 5, 1, 0] rfl
  exact loop6 2000 0 0 _ _ _ hF hw hl (Or.inl rfl)
abbrev rmX8_letterOf : Room := { frames := 3, cells := 0, slots := 0, locals := 66 }
def g_X8_letterOf (v : Mm)  : Option (Int32 × Mm) := if v 30 0 11 = 1 then (kb2 (g_X8_takes v 1 1) (fun r6 v7 => some (r6 - 97, v7))) else (kb2 (g_X8_takes v 0 1) (fun r3 v4 => some (r3 - 97, v4)))
set_option maxHeartbeats 4000000 in
set_option maxRecDepth 100000 in
theorem d_X8_letterOf (l : Launch) (E : kq_T) (Z : km_Z) (v : Mm) (hs : g_X8_letterOf v ≠ none) : km_I l E Z cntM yX8_letterOf wsX8_letterOf rmX8_letterOf [.ref (Z.1 30 0)] v (fun r v1 => g_X8_letterOf v = some (r, v1)) := by
  refine km_goI (cc := cX8_letterOf) (maxL := 1) (by decide) rfl (Nat.le_of_ble_eq_true rfl) rfl rfl rfl ?_
  intro p e s m below meth c A ls Q C hK hw hl hret
  obtain ⟨hx, hb, hml, hown, hts, -, -, -⟩ := C
  have hown : s.vm.findClass RX8 = some m.cls := hown
  have hl : lv_has ls 1 [(0, .ref (Z.1 30 0))] := hl
  have hF := g_X8_letterOf.eq_1 v 
  refine lv_aload_n hx hb dX8_letterOf_0 rfl (lv_at hl 0 rfl) ?_
  refine lv_aload_n hx hb dX8_letterOf_1 rfl (lv_at hl 0 rfl) ?_
  refine km_get (ci := 8) (C := RX8) (T := TX8) (N := 23) (t := 30) (i := 0) hx hb hts fi_X8_letterOf_X8 hown hK hw (by decide) (by decide) rfl rfl 11 (by decide) (hts (.fieldLink RX8 98 "WrongWordModel" "token" "I") ow_X8_letterOf_98) rfl dX8_letterOf_2 ?_
  refine lv_iconst (v := 1) hx hb dX8_letterOf_5 (by decide) ?_
  refine lv_icmp_ne (tgt := 13) hx hb dX8_letterOf_6 (by decide) (fun c1 => ?_) (fun c1 => ?_)
  · skip
    have hF := hF.trans (if_neg c1)
    refine lv_iconst (v := 0) hx hb dX8_letterOf_13 (by decide) ?_
    refine lv_iconst (v := 1) hx hb dX8_letterOf_14 (by decide) ?_
    have hs2 : g_X8_takes v 0 1 ≠ none := fun q => hs (hF.trans (kb2_n q _))
    refine km_cI (As := [.int 0, .int 1]) (rest := []) (n := 2) (q := (RX8, TX8, 23)) (ci := 8) (t := 30) (i := 0) ⟨hx, hb, hml, hown, hts⟩ (d_X8_takes l E Z v 0 1 hs2) gX8_letterOf_X8_takes rfl hV_X8_takes ⟨Nat.le_of_ble_eq_true rfl, Nat.le_of_ble_eq_true rfl⟩ hK hw (by decide) (by decide) rfl rfl rfl hl.1 rfl (Nat.le_of_ble_eq_true rfl) dX8_letterOf_15 rfl rfl (fun r3 v4 H locs hp hw => ?_)
    have hF := hF.trans (kb2_some hp _)
    refine lv_bipush (v := 97) hx hb dX8_letterOf_18 (by decide) ?_
    refine lv_isub hx hb dX8_letterOf_20 ?_
    exact hret _ _ _ _ _ _ hw dX8_letterOf_21 hF
  · skip
    have hF := hF.trans (if_pos c1)
    refine lv_iconst (v := 1) hx hb dX8_letterOf_9 (by decide) ?_
    refine lv_goto (tgt := 14) hx hb dX8_letterOf_10 (by decide) ?_
    refine lv_iconst (v := 1) hx hb dX8_letterOf_14 (by decide) ?_
    have hs5 : g_X8_takes v 1 1 ≠ none := fun q => hs (hF.trans (kb2_n q _))
    refine km_cI (As := [.int 1, .int 1]) (rest := []) (n := 2) (q := (RX8, TX8, 23)) (ci := 8) (t := 30) (i := 0) ⟨hx, hb, hml, hown, hts⟩ (d_X8_takes l E Z v 1 1 hs5) gX8_letterOf_X8_takes rfl hV_X8_takes ⟨Nat.le_of_ble_eq_true rfl, Nat.le_of_ble_eq_true rfl⟩ hK hw (by decide) (by decide) rfl rfl rfl hl.1 rfl (Nat.le_of_ble_eq_true rfl) dX8_letterOf_15 rfl rfl (fun r6 v7 H locs hp hw => ?_)
    have hF := hF.trans (kb2_some hp _)
    refine lv_bipush (v := 97) hx hb dX8_letterOf_18 (by decide) ?_
    refine lv_isub hx hb dX8_letterOf_20 ?_
    exact hret _ _ _ _ _ _ hw dX8_letterOf_21 hF
abbrev rmX8_readsWord : Room := { frames := 4, cells := 0, slots := 0, locals := 86 }
def g_X8_readsWord (v : Mm)  : Option (Mm) := if 6 ≤ v 37 0 (Int32.toNatClampNeg 3) then (kb2 (g_X8_takes v 0 3) (fun r3 v4 => if 6 ≤ v4 37 0 (Int32.toNatClampNeg 3) then (kb2 (g_X8_letterOf v4) (fun r7 v8 => kb2 (g_X8_letterOf v8) (fun r10 v11 => Option.bind (g_X8_isWell v11) (fun r13 => if r13 = 0 then (Option.bind (g_X8_isTold v11 r7 r10 ((v11 30 0 12) - 97)) (fun r17 => if r17 = 0 then (kb2 (g_X8_takes v11 1 2) (fun r53 v54 => if v54 30 0 11 = 4 then (kb2 (g_X8_takes v54 1 1) (fun r71 v72 => Option.bind (g_X8_isWell v72) (fun r74 => if r74 = 0 then (some v72) else (if (8 : Int32) + ((3 : Int32) * 0) < 0 ∨ 65 ≤ Int32.toNatClampNeg ((8 : Int32) + ((3 : Int32) * 0)) then none else (Option.bind (some (up3 v72 37 0 (Int32.toNatClampNeg ((8 : Int32) + ((3 : Int32) * 0))) r7)) (fun v78 => if ((8 : Int32) + ((3 : Int32) * 0)) + 1 < 0 ∨ 65 ≤ Int32.toNatClampNeg (((8 : Int32) + ((3 : Int32) * 0)) + 1) then none else (Option.bind (some (up3 v78 37 0 (Int32.toNatClampNeg (((8 : Int32) + ((3 : Int32) * 0)) + 1)) r10)) (fun v80 => if ((8 : Int32) + ((3 : Int32) * 0)) + 2 < 0 ∨ 65 ≤ Int32.toNatClampNeg (((8 : Int32) + ((3 : Int32) * 0)) + 2) then none else (Option.bind (some (up3 v80 37 0 (Int32.toNatClampNeg (((8 : Int32) + ((3 : Int32) * 0)) + 2)) (r53 - 97))) (fun v82 => Option.bind (some (up3 v82 37 0 (Int32.toNatClampNeg 3) ((v82 37 0 (Int32.toNatClampNeg 3)) + 1))) (fun v83 => some v83))))))))))) else (kb2 (g_X8_takes v54 0 1) (fun r57 v58 => Option.bind (g_X8_isWell v58) (fun r60 => if r60 = 0 then (some v58) else (if (8 : Int32) + ((3 : Int32) * 0) < 0 ∨ 65 ≤ Int32.toNatClampNeg ((8 : Int32) + ((3 : Int32) * 0)) then none else (Option.bind (some (up3 v58 37 0 (Int32.toNatClampNeg ((8 : Int32) + ((3 : Int32) * 0))) r7)) (fun v64 => if ((8 : Int32) + ((3 : Int32) * 0)) + 1 < 0 ∨ 65 ≤ Int32.toNatClampNeg (((8 : Int32) + ((3 : Int32) * 0)) + 1) then none else (Option.bind (some (up3 v64 37 0 (Int32.toNatClampNeg (((8 : Int32) + ((3 : Int32) * 0)) + 1)) r10)) (fun v66 => if ((8 : Int32) + ((3 : Int32) * 0)) + 2 < 0 ∨ 65 ≤ Int32.toNatClampNeg (((8 : Int32) + ((3 : Int32) * 0)) + 2) then none else (Option.bind (some (up3 v66 37 0 (Int32.toNatClampNeg (((8 : Int32) + ((3 : Int32) * 0)) + 2)) (r53 - 97))) (fun v68 => Option.bind (some (up3 v68 37 0 (Int32.toNatClampNeg 3) ((v68 37 0 (Int32.toNatClampNeg 3)) + 1))) (fun v69 => some v69))))))))))))) else (kb2 (g_X8_takes v11 0 2) (fun r21 v22 => if v22 30 0 11 = 4 then (kb2 (g_X8_takes v22 1 1) (fun r39 v40 => Option.bind (g_X8_isWell v40) (fun r42 => if r42 = 0 then (some v40) else (if (8 : Int32) + ((3 : Int32) * 0) < 0 ∨ 65 ≤ Int32.toNatClampNeg ((8 : Int32) + ((3 : Int32) * 0)) then none else (Option.bind (some (up3 v40 37 0 (Int32.toNatClampNeg ((8 : Int32) + ((3 : Int32) * 0))) r7)) (fun v46 => if ((8 : Int32) + ((3 : Int32) * 0)) + 1 < 0 ∨ 65 ≤ Int32.toNatClampNeg (((8 : Int32) + ((3 : Int32) * 0)) + 1) then none else (Option.bind (some (up3 v46 37 0 (Int32.toNatClampNeg (((8 : Int32) + ((3 : Int32) * 0)) + 1)) r10)) (fun v48 => if ((8 : Int32) + ((3 : Int32) * 0)) + 2 < 0 ∨ 65 ≤ Int32.toNatClampNeg (((8 : Int32) + ((3 : Int32) * 0)) + 2) then none else (Option.bind (some (up3 v48 37 0 (Int32.toNatClampNeg (((8 : Int32) + ((3 : Int32) * 0)) + 2)) (r21 - 97))) (fun v50 => Option.bind (some (up3 v50 37 0 (Int32.toNatClampNeg 3) ((v50 37 0 (Int32.toNatClampNeg 3)) + 1))) (fun v51 => some v51))))))))))) else (kb2 (g_X8_takes v22 0 1) (fun r25 v26 => Option.bind (g_X8_isWell v26) (fun r28 => if r28 = 0 then (some v26) else (if (8 : Int32) + ((3 : Int32) * 0) < 0 ∨ 65 ≤ Int32.toNatClampNeg ((8 : Int32) + ((3 : Int32) * 0)) then none else (Option.bind (some (up3 v26 37 0 (Int32.toNatClampNeg ((8 : Int32) + ((3 : Int32) * 0))) r7)) (fun v32 => if ((8 : Int32) + ((3 : Int32) * 0)) + 1 < 0 ∨ 65 ≤ Int32.toNatClampNeg (((8 : Int32) + ((3 : Int32) * 0)) + 1) then none else (Option.bind (some (up3 v32 37 0 (Int32.toNatClampNeg (((8 : Int32) + ((3 : Int32) * 0)) + 1)) r10)) (fun v34 => if ((8 : Int32) + ((3 : Int32) * 0)) + 2 < 0 ∨ 65 ≤ Int32.toNatClampNeg (((8 : Int32) + ((3 : Int32) * 0)) + 2) then none else (Option.bind (some (up3 v34 37 0 (Int32.toNatClampNeg (((8 : Int32) + ((3 : Int32) * 0)) + 2)) (r21 - 97))) (fun v36 => Option.bind (some (up3 v36 37 0 (Int32.toNatClampNeg 3) ((v36 37 0 (Int32.toNatClampNeg 3)) + 1))) (fun v37 => some v37))))))))))))))) else (if v11 30 0 11 = 1 then (Option.bind (g_X8_isTold v11 r7 r10 ((v11 30 0 12) - 97)) (fun r86 => if r86 = 0 then (kb2 (g_X8_takes v11 1 2) (fun r122 v123 => if v123 30 0 11 = 4 then (kb2 (g_X8_takes v123 1 1) (fun r140 v141 => Option.bind (g_X8_isWell v141) (fun r143 => if r143 = 0 then (some v141) else (if (8 : Int32) + ((3 : Int32) * 0) < 0 ∨ 65 ≤ Int32.toNatClampNeg ((8 : Int32) + ((3 : Int32) * 0)) then none else (Option.bind (some (up3 v141 37 0 (Int32.toNatClampNeg ((8 : Int32) + ((3 : Int32) * 0))) r7)) (fun v147 => if ((8 : Int32) + ((3 : Int32) * 0)) + 1 < 0 ∨ 65 ≤ Int32.toNatClampNeg (((8 : Int32) + ((3 : Int32) * 0)) + 1) then none else (Option.bind (some (up3 v147 37 0 (Int32.toNatClampNeg (((8 : Int32) + ((3 : Int32) * 0)) + 1)) r10)) (fun v149 => if ((8 : Int32) + ((3 : Int32) * 0)) + 2 < 0 ∨ 65 ≤ Int32.toNatClampNeg (((8 : Int32) + ((3 : Int32) * 0)) + 2) then none else (Option.bind (some (up3 v149 37 0 (Int32.toNatClampNeg (((8 : Int32) + ((3 : Int32) * 0)) + 2)) (r122 - 97))) (fun v151 => Option.bind (some (up3 v151 37 0 (Int32.toNatClampNeg 3) ((v151 37 0 (Int32.toNatClampNeg 3)) + 1))) (fun v152 => some v152))))))))))) else (kb2 (g_X8_takes v123 0 1) (fun r126 v127 => Option.bind (g_X8_isWell v127) (fun r129 => if r129 = 0 then (some v127) else (if (8 : Int32) + ((3 : Int32) * 0) < 0 ∨ 65 ≤ Int32.toNatClampNeg ((8 : Int32) + ((3 : Int32) * 0)) then none else (Option.bind (some (up3 v127 37 0 (Int32.toNatClampNeg ((8 : Int32) + ((3 : Int32) * 0))) r7)) (fun v133 => if ((8 : Int32) + ((3 : Int32) * 0)) + 1 < 0 ∨ 65 ≤ Int32.toNatClampNeg (((8 : Int32) + ((3 : Int32) * 0)) + 1) then none else (Option.bind (some (up3 v133 37 0 (Int32.toNatClampNeg (((8 : Int32) + ((3 : Int32) * 0)) + 1)) r10)) (fun v135 => if ((8 : Int32) + ((3 : Int32) * 0)) + 2 < 0 ∨ 65 ≤ Int32.toNatClampNeg (((8 : Int32) + ((3 : Int32) * 0)) + 2) then none else (Option.bind (some (up3 v135 37 0 (Int32.toNatClampNeg (((8 : Int32) + ((3 : Int32) * 0)) + 2)) (r122 - 97))) (fun v137 => Option.bind (some (up3 v137 37 0 (Int32.toNatClampNeg 3) ((v137 37 0 (Int32.toNatClampNeg 3)) + 1))) (fun v138 => some v138))))))))))))) else (kb2 (g_X8_takes v11 0 2) (fun r90 v91 => if v91 30 0 11 = 4 then (kb2 (g_X8_takes v91 1 1) (fun r108 v109 => Option.bind (g_X8_isWell v109) (fun r111 => if r111 = 0 then (some v109) else (if (8 : Int32) + ((3 : Int32) * 0) < 0 ∨ 65 ≤ Int32.toNatClampNeg ((8 : Int32) + ((3 : Int32) * 0)) then none else (Option.bind (some (up3 v109 37 0 (Int32.toNatClampNeg ((8 : Int32) + ((3 : Int32) * 0))) r7)) (fun v115 => if ((8 : Int32) + ((3 : Int32) * 0)) + 1 < 0 ∨ 65 ≤ Int32.toNatClampNeg (((8 : Int32) + ((3 : Int32) * 0)) + 1) then none else (Option.bind (some (up3 v115 37 0 (Int32.toNatClampNeg (((8 : Int32) + ((3 : Int32) * 0)) + 1)) r10)) (fun v117 => if ((8 : Int32) + ((3 : Int32) * 0)) + 2 < 0 ∨ 65 ≤ Int32.toNatClampNeg (((8 : Int32) + ((3 : Int32) * 0)) + 2) then none else (Option.bind (some (up3 v117 37 0 (Int32.toNatClampNeg (((8 : Int32) + ((3 : Int32) * 0)) + 2)) (r90 - 97))) (fun v119 => Option.bind (some (up3 v119 37 0 (Int32.toNatClampNeg 3) ((v119 37 0 (Int32.toNatClampNeg 3)) + 1))) (fun v120 => some v120))))))))))) else (kb2 (g_X8_takes v91 0 1) (fun r94 v95 => Option.bind (g_X8_isWell v95) (fun r97 => if r97 = 0 then (some v95) else (if (8 : Int32) + ((3 : Int32) * 0) < 0 ∨ 65 ≤ Int32.toNatClampNeg ((8 : Int32) + ((3 : Int32) * 0)) then none else (Option.bind (some (up3 v95 37 0 (Int32.toNatClampNeg ((8 : Int32) + ((3 : Int32) * 0))) r7)) (fun v101 => if ((8 : Int32) + ((3 : Int32) * 0)) + 1 < 0 ∨ 65 ≤ Int32.toNatClampNeg (((8 : Int32) + ((3 : Int32) * 0)) + 1) then none else (Option.bind (some (up3 v101 37 0 (Int32.toNatClampNeg (((8 : Int32) + ((3 : Int32) * 0)) + 1)) r10)) (fun v103 => if ((8 : Int32) + ((3 : Int32) * 0)) + 2 < 0 ∨ 65 ≤ Int32.toNatClampNeg (((8 : Int32) + ((3 : Int32) * 0)) + 2) then none else (Option.bind (some (up3 v103 37 0 (Int32.toNatClampNeg (((8 : Int32) + ((3 : Int32) * 0)) + 2)) (r90 - 97))) (fun v105 => Option.bind (some (up3 v105 37 0 (Int32.toNatClampNeg 3) ((v105 37 0 (Int32.toNatClampNeg 3)) + 1))) (fun v106 => some v106))))))))))))))) else (kb2 (g_X8_takes v11 0 1) (fun r154 v155 => Option.bind (g_X8_isTold v155 r7 r10 ((v155 30 0 12) - 97)) (fun r157 => if r157 = 0 then (kb2 (g_X8_takes v155 1 2) (fun r193 v194 => if v194 30 0 11 = 4 then (kb2 (g_X8_takes v194 1 1) (fun r211 v212 => Option.bind (g_X8_isWell v212) (fun r214 => if r214 = 0 then (some v212) else (if (8 : Int32) + ((3 : Int32) * 0) < 0 ∨ 65 ≤ Int32.toNatClampNeg ((8 : Int32) + ((3 : Int32) * 0)) then none else (Option.bind (some (up3 v212 37 0 (Int32.toNatClampNeg ((8 : Int32) + ((3 : Int32) * 0))) r7)) (fun v218 => if ((8 : Int32) + ((3 : Int32) * 0)) + 1 < 0 ∨ 65 ≤ Int32.toNatClampNeg (((8 : Int32) + ((3 : Int32) * 0)) + 1) then none else (Option.bind (some (up3 v218 37 0 (Int32.toNatClampNeg (((8 : Int32) + ((3 : Int32) * 0)) + 1)) r10)) (fun v220 => if ((8 : Int32) + ((3 : Int32) * 0)) + 2 < 0 ∨ 65 ≤ Int32.toNatClampNeg (((8 : Int32) + ((3 : Int32) * 0)) + 2) then none else (Option.bind (some (up3 v220 37 0 (Int32.toNatClampNeg (((8 : Int32) + ((3 : Int32) * 0)) + 2)) (r193 - 97))) (fun v222 => Option.bind (some (up3 v222 37 0 (Int32.toNatClampNeg 3) ((v222 37 0 (Int32.toNatClampNeg 3)) + 1))) (fun v223 => some v223))))))))))) else (kb2 (g_X8_takes v194 0 1) (fun r197 v198 => Option.bind (g_X8_isWell v198) (fun r200 => if r200 = 0 then (some v198) else (if (8 : Int32) + ((3 : Int32) * 0) < 0 ∨ 65 ≤ Int32.toNatClampNeg ((8 : Int32) + ((3 : Int32) * 0)) then none else (Option.bind (some (up3 v198 37 0 (Int32.toNatClampNeg ((8 : Int32) + ((3 : Int32) * 0))) r7)) (fun v204 => if ((8 : Int32) + ((3 : Int32) * 0)) + 1 < 0 ∨ 65 ≤ Int32.toNatClampNeg (((8 : Int32) + ((3 : Int32) * 0)) + 1) then none else (Option.bind (some (up3 v204 37 0 (Int32.toNatClampNeg (((8 : Int32) + ((3 : Int32) * 0)) + 1)) r10)) (fun v206 => if ((8 : Int32) + ((3 : Int32) * 0)) + 2 < 0 ∨ 65 ≤ Int32.toNatClampNeg (((8 : Int32) + ((3 : Int32) * 0)) + 2) then none else (Option.bind (some (up3 v206 37 0 (Int32.toNatClampNeg (((8 : Int32) + ((3 : Int32) * 0)) + 2)) (r193 - 97))) (fun v208 => Option.bind (some (up3 v208 37 0 (Int32.toNatClampNeg 3) ((v208 37 0 (Int32.toNatClampNeg 3)) + 1))) (fun v209 => some v209))))))))))))) else (kb2 (g_X8_takes v155 0 2) (fun r161 v162 => if v162 30 0 11 = 4 then (kb2 (g_X8_takes v162 1 1) (fun r179 v180 => Option.bind (g_X8_isWell v180) (fun r182 => if r182 = 0 then (some v180) else (if (8 : Int32) + ((3 : Int32) * 0) < 0 ∨ 65 ≤ Int32.toNatClampNeg ((8 : Int32) + ((3 : Int32) * 0)) then none else (Option.bind (some (up3 v180 37 0 (Int32.toNatClampNeg ((8 : Int32) + ((3 : Int32) * 0))) r7)) (fun v186 => if ((8 : Int32) + ((3 : Int32) * 0)) + 1 < 0 ∨ 65 ≤ Int32.toNatClampNeg (((8 : Int32) + ((3 : Int32) * 0)) + 1) then none else (Option.bind (some (up3 v186 37 0 (Int32.toNatClampNeg (((8 : Int32) + ((3 : Int32) * 0)) + 1)) r10)) (fun v188 => if ((8 : Int32) + ((3 : Int32) * 0)) + 2 < 0 ∨ 65 ≤ Int32.toNatClampNeg (((8 : Int32) + ((3 : Int32) * 0)) + 2) then none else (Option.bind (some (up3 v188 37 0 (Int32.toNatClampNeg (((8 : Int32) + ((3 : Int32) * 0)) + 2)) (r161 - 97))) (fun v190 => Option.bind (some (up3 v190 37 0 (Int32.toNatClampNeg 3) ((v190 37 0 (Int32.toNatClampNeg 3)) + 1))) (fun v191 => some v191))))))))))) else (kb2 (g_X8_takes v162 0 1) (fun r165 v166 => Option.bind (g_X8_isWell v166) (fun r168 => if r168 = 0 then (some v166) else (if (8 : Int32) + ((3 : Int32) * 0) < 0 ∨ 65 ≤ Int32.toNatClampNeg ((8 : Int32) + ((3 : Int32) * 0)) then none else (Option.bind (some (up3 v166 37 0 (Int32.toNatClampNeg ((8 : Int32) + ((3 : Int32) * 0))) r7)) (fun v172 => if ((8 : Int32) + ((3 : Int32) * 0)) + 1 < 0 ∨ 65 ≤ Int32.toNatClampNeg (((8 : Int32) + ((3 : Int32) * 0)) + 1) then none else (Option.bind (some (up3 v172 37 0 (Int32.toNatClampNeg (((8 : Int32) + ((3 : Int32) * 0)) + 1)) r10)) (fun v174 => if ((8 : Int32) + ((3 : Int32) * 0)) + 2 < 0 ∨ 65 ≤ Int32.toNatClampNeg (((8 : Int32) + ((3 : Int32) * 0)) + 2) then none else (Option.bind (some (up3 v174 37 0 (Int32.toNatClampNeg (((8 : Int32) + ((3 : Int32) * 0)) + 2)) (r161 - 97))) (fun v176 => Option.bind (some (up3 v176 37 0 (Int32.toNatClampNeg 3) ((v176 37 0 (Int32.toNatClampNeg 3)) + 1))) (fun v177 => some v177))))))))))))))))))))) else (Option.bind (some ((8 : Int32) + ((3 : Int32) * (v4 37 0 (Int32.toNatClampNeg 3))))) (fun x224 => kb2 (g_X8_letterOf v4) (fun r226 v227 => kb2 (g_X8_letterOf v227) (fun r229 v230 => Option.bind (g_X8_isWell v230) (fun r232 => if r232 = 0 then (Option.bind (g_X8_isTold v230 r226 r229 ((v230 30 0 12) - 97)) (fun r236 => if r236 = 0 then (kb2 (g_X8_takes v230 1 2) (fun r272 v273 => if v273 30 0 11 = 4 then (kb2 (g_X8_takes v273 1 1) (fun r290 v291 => Option.bind (g_X8_isWell v291) (fun r293 => if r293 = 0 then (some v291) else (if x224 < 0 ∨ 65 ≤ Int32.toNatClampNeg x224 then none else (Option.bind (some (up3 v291 37 0 (Int32.toNatClampNeg x224) r226)) (fun v297 => if x224 + 1 < 0 ∨ 65 ≤ Int32.toNatClampNeg (x224 + 1) then none else (Option.bind (some (up3 v297 37 0 (Int32.toNatClampNeg (x224 + 1)) r229)) (fun v299 => if x224 + 2 < 0 ∨ 65 ≤ Int32.toNatClampNeg (x224 + 2) then none else (Option.bind (some (up3 v299 37 0 (Int32.toNatClampNeg (x224 + 2)) (r272 - 97))) (fun v301 => Option.bind (some (up3 v301 37 0 (Int32.toNatClampNeg 3) ((v301 37 0 (Int32.toNatClampNeg 3)) + 1))) (fun v302 => some v302))))))))))) else (kb2 (g_X8_takes v273 0 1) (fun r276 v277 => Option.bind (g_X8_isWell v277) (fun r279 => if r279 = 0 then (some v277) else (if x224 < 0 ∨ 65 ≤ Int32.toNatClampNeg x224 then none else (Option.bind (some (up3 v277 37 0 (Int32.toNatClampNeg x224) r226)) (fun v283 => if x224 + 1 < 0 ∨ 65 ≤ Int32.toNatClampNeg (x224 + 1) then none else (Option.bind (some (up3 v283 37 0 (Int32.toNatClampNeg (x224 + 1)) r229)) (fun v285 => if x224 + 2 < 0 ∨ 65 ≤ Int32.toNatClampNeg (x224 + 2) then none else (Option.bind (some (up3 v285 37 0 (Int32.toNatClampNeg (x224 + 2)) (r272 - 97))) (fun v287 => Option.bind (some (up3 v287 37 0 (Int32.toNatClampNeg 3) ((v287 37 0 (Int32.toNatClampNeg 3)) + 1))) (fun v288 => some v288))))))))))))) else (kb2 (g_X8_takes v230 0 2) (fun r240 v241 => if v241 30 0 11 = 4 then (kb2 (g_X8_takes v241 1 1) (fun r258 v259 => Option.bind (g_X8_isWell v259) (fun r261 => if r261 = 0 then (some v259) else (if x224 < 0 ∨ 65 ≤ Int32.toNatClampNeg x224 then none else (Option.bind (some (up3 v259 37 0 (Int32.toNatClampNeg x224) r226)) (fun v265 => if x224 + 1 < 0 ∨ 65 ≤ Int32.toNatClampNeg (x224 + 1) then none else (Option.bind (some (up3 v265 37 0 (Int32.toNatClampNeg (x224 + 1)) r229)) (fun v267 => if x224 + 2 < 0 ∨ 65 ≤ Int32.toNatClampNeg (x224 + 2) then none else (Option.bind (some (up3 v267 37 0 (Int32.toNatClampNeg (x224 + 2)) (r240 - 97))) (fun v269 => Option.bind (some (up3 v269 37 0 (Int32.toNatClampNeg 3) ((v269 37 0 (Int32.toNatClampNeg 3)) + 1))) (fun v270 => some v270))))))))))) else (kb2 (g_X8_takes v241 0 1) (fun r244 v245 => Option.bind (g_X8_isWell v245) (fun r247 => if r247 = 0 then (some v245) else (if x224 < 0 ∨ 65 ≤ Int32.toNatClampNeg x224 then none else (Option.bind (some (up3 v245 37 0 (Int32.toNatClampNeg x224) r226)) (fun v251 => if x224 + 1 < 0 ∨ 65 ≤ Int32.toNatClampNeg (x224 + 1) then none else (Option.bind (some (up3 v251 37 0 (Int32.toNatClampNeg (x224 + 1)) r229)) (fun v253 => if x224 + 2 < 0 ∨ 65 ≤ Int32.toNatClampNeg (x224 + 2) then none else (Option.bind (some (up3 v253 37 0 (Int32.toNatClampNeg (x224 + 2)) (r240 - 97))) (fun v255 => Option.bind (some (up3 v255 37 0 (Int32.toNatClampNeg 3) ((v255 37 0 (Int32.toNatClampNeg 3)) + 1))) (fun v256 => some v256))))))))))))))) else (if v230 30 0 11 = 1 then (Option.bind (g_X8_isTold v230 r226 r229 ((v230 30 0 12) - 97)) (fun r305 => if r305 = 0 then (kb2 (g_X8_takes v230 1 2) (fun r341 v342 => if v342 30 0 11 = 4 then (kb2 (g_X8_takes v342 1 1) (fun r359 v360 => Option.bind (g_X8_isWell v360) (fun r362 => if r362 = 0 then (some v360) else (if x224 < 0 ∨ 65 ≤ Int32.toNatClampNeg x224 then none else (Option.bind (some (up3 v360 37 0 (Int32.toNatClampNeg x224) r226)) (fun v366 => if x224 + 1 < 0 ∨ 65 ≤ Int32.toNatClampNeg (x224 + 1) then none else (Option.bind (some (up3 v366 37 0 (Int32.toNatClampNeg (x224 + 1)) r229)) (fun v368 => if x224 + 2 < 0 ∨ 65 ≤ Int32.toNatClampNeg (x224 + 2) then none else (Option.bind (some (up3 v368 37 0 (Int32.toNatClampNeg (x224 + 2)) (r341 - 97))) (fun v370 => Option.bind (some (up3 v370 37 0 (Int32.toNatClampNeg 3) ((v370 37 0 (Int32.toNatClampNeg 3)) + 1))) (fun v371 => some v371))))))))))) else (kb2 (g_X8_takes v342 0 1) (fun r345 v346 => Option.bind (g_X8_isWell v346) (fun r348 => if r348 = 0 then (some v346) else (if x224 < 0 ∨ 65 ≤ Int32.toNatClampNeg x224 then none else (Option.bind (some (up3 v346 37 0 (Int32.toNatClampNeg x224) r226)) (fun v352 => if x224 + 1 < 0 ∨ 65 ≤ Int32.toNatClampNeg (x224 + 1) then none else (Option.bind (some (up3 v352 37 0 (Int32.toNatClampNeg (x224 + 1)) r229)) (fun v354 => if x224 + 2 < 0 ∨ 65 ≤ Int32.toNatClampNeg (x224 + 2) then none else (Option.bind (some (up3 v354 37 0 (Int32.toNatClampNeg (x224 + 2)) (r341 - 97))) (fun v356 => Option.bind (some (up3 v356 37 0 (Int32.toNatClampNeg 3) ((v356 37 0 (Int32.toNatClampNeg 3)) + 1))) (fun v357 => some v357))))))))))))) else (kb2 (g_X8_takes v230 0 2) (fun r309 v310 => if v310 30 0 11 = 4 then (kb2 (g_X8_takes v310 1 1) (fun r327 v328 => Option.bind (g_X8_isWell v328) (fun r330 => if r330 = 0 then (some v328) else (if x224 < 0 ∨ 65 ≤ Int32.toNatClampNeg x224 then none else (Option.bind (some (up3 v328 37 0 (Int32.toNatClampNeg x224) r226)) (fun v334 => if x224 + 1 < 0 ∨ 65 ≤ Int32.toNatClampNeg (x224 + 1) then none else (Option.bind (some (up3 v334 37 0 (Int32.toNatClampNeg (x224 + 1)) r229)) (fun v336 => if x224 + 2 < 0 ∨ 65 ≤ Int32.toNatClampNeg (x224 + 2) then none else (Option.bind (some (up3 v336 37 0 (Int32.toNatClampNeg (x224 + 2)) (r309 - 97))) (fun v338 => Option.bind (some (up3 v338 37 0 (Int32.toNatClampNeg 3) ((v338 37 0 (Int32.toNatClampNeg 3)) + 1))) (fun v339 => some v339))))))))))) else (kb2 (g_X8_takes v310 0 1) (fun r313 v314 => Option.bind (g_X8_isWell v314) (fun r316 => if r316 = 0 then (some v314) else (if x224 < 0 ∨ 65 ≤ Int32.toNatClampNeg x224 then none else (Option.bind (some (up3 v314 37 0 (Int32.toNatClampNeg x224) r226)) (fun v320 => if x224 + 1 < 0 ∨ 65 ≤ Int32.toNatClampNeg (x224 + 1) then none else (Option.bind (some (up3 v320 37 0 (Int32.toNatClampNeg (x224 + 1)) r229)) (fun v322 => if x224 + 2 < 0 ∨ 65 ≤ Int32.toNatClampNeg (x224 + 2) then none else (Option.bind (some (up3 v322 37 0 (Int32.toNatClampNeg (x224 + 2)) (r309 - 97))) (fun v324 => Option.bind (some (up3 v324 37 0 (Int32.toNatClampNeg 3) ((v324 37 0 (Int32.toNatClampNeg 3)) + 1))) (fun v325 => some v325))))))))))))))) else (kb2 (g_X8_takes v230 0 1) (fun r373 v374 => Option.bind (g_X8_isTold v374 r226 r229 ((v374 30 0 12) - 97)) (fun r376 => if r376 = 0 then (kb2 (g_X8_takes v374 1 2) (fun r412 v413 => if v413 30 0 11 = 4 then (kb2 (g_X8_takes v413 1 1) (fun r430 v431 => Option.bind (g_X8_isWell v431) (fun r433 => if r433 = 0 then (some v431) else (if x224 < 0 ∨ 65 ≤ Int32.toNatClampNeg x224 then none else (Option.bind (some (up3 v431 37 0 (Int32.toNatClampNeg x224) r226)) (fun v437 => if x224 + 1 < 0 ∨ 65 ≤ Int32.toNatClampNeg (x224 + 1) then none else (Option.bind (some (up3 v437 37 0 (Int32.toNatClampNeg (x224 + 1)) r229)) (fun v439 => if x224 + 2 < 0 ∨ 65 ≤ Int32.toNatClampNeg (x224 + 2) then none else (Option.bind (some (up3 v439 37 0 (Int32.toNatClampNeg (x224 + 2)) (r412 - 97))) (fun v441 => Option.bind (some (up3 v441 37 0 (Int32.toNatClampNeg 3) ((v441 37 0 (Int32.toNatClampNeg 3)) + 1))) (fun v442 => some v442))))))))))) else (kb2 (g_X8_takes v413 0 1) (fun r416 v417 => Option.bind (g_X8_isWell v417) (fun r419 => if r419 = 0 then (some v417) else (if x224 < 0 ∨ 65 ≤ Int32.toNatClampNeg x224 then none else (Option.bind (some (up3 v417 37 0 (Int32.toNatClampNeg x224) r226)) (fun v423 => if x224 + 1 < 0 ∨ 65 ≤ Int32.toNatClampNeg (x224 + 1) then none else (Option.bind (some (up3 v423 37 0 (Int32.toNatClampNeg (x224 + 1)) r229)) (fun v425 => if x224 + 2 < 0 ∨ 65 ≤ Int32.toNatClampNeg (x224 + 2) then none else (Option.bind (some (up3 v425 37 0 (Int32.toNatClampNeg (x224 + 2)) (r412 - 97))) (fun v427 => Option.bind (some (up3 v427 37 0 (Int32.toNatClampNeg 3) ((v427 37 0 (Int32.toNatClampNeg 3)) + 1))) (fun v428 => some v428))))))))))))) else (kb2 (g_X8_takes v374 0 2) (fun r380 v381 => if v381 30 0 11 = 4 then (kb2 (g_X8_takes v381 1 1) (fun r398 v399 => Option.bind (g_X8_isWell v399) (fun r401 => if r401 = 0 then (some v399) else (if x224 < 0 ∨ 65 ≤ Int32.toNatClampNeg x224 then none else (Option.bind (some (up3 v399 37 0 (Int32.toNatClampNeg x224) r226)) (fun v405 => if x224 + 1 < 0 ∨ 65 ≤ Int32.toNatClampNeg (x224 + 1) then none else (Option.bind (some (up3 v405 37 0 (Int32.toNatClampNeg (x224 + 1)) r229)) (fun v407 => if x224 + 2 < 0 ∨ 65 ≤ Int32.toNatClampNeg (x224 + 2) then none else (Option.bind (some (up3 v407 37 0 (Int32.toNatClampNeg (x224 + 2)) (r380 - 97))) (fun v409 => Option.bind (some (up3 v409 37 0 (Int32.toNatClampNeg 3) ((v409 37 0 (Int32.toNatClampNeg 3)) + 1))) (fun v410 => some v410))))))))))) else (kb2 (g_X8_takes v381 0 1) (fun r384 v385 => Option.bind (g_X8_isWell v385) (fun r387 => if r387 = 0 then (some v385) else (if x224 < 0 ∨ 65 ≤ Int32.toNatClampNeg x224 then none else (Option.bind (some (up3 v385 37 0 (Int32.toNatClampNeg x224) r226)) (fun v391 => if x224 + 1 < 0 ∨ 65 ≤ Int32.toNatClampNeg (x224 + 1) then none else (Option.bind (some (up3 v391 37 0 (Int32.toNatClampNeg (x224 + 1)) r229)) (fun v393 => if x224 + 2 < 0 ∨ 65 ≤ Int32.toNatClampNeg (x224 + 2) then none else (Option.bind (some (up3 v393 37 0 (Int32.toNatClampNeg (x224 + 2)) (r380 - 97))) (fun v395 => Option.bind (some (up3 v395 37 0 (Int32.toNatClampNeg 3) ((v395 37 0 (Int32.toNatClampNeg 3)) + 1))) (fun v396 => some v396)))))))))))))))))))))))) else (kb2 (g_X8_takes v 1 3) (fun r444 v445 => if 6 ≤ v445 37 0 (Int32.toNatClampNeg 3) then (kb2 (g_X8_letterOf v445) (fun r448 v449 => kb2 (g_X8_letterOf v449) (fun r451 v452 => Option.bind (g_X8_isWell v452) (fun r454 => if r454 = 0 then (Option.bind (g_X8_isTold v452 r448 r451 ((v452 30 0 12) - 97)) (fun r458 => if r458 = 0 then (kb2 (g_X8_takes v452 1 2) (fun r494 v495 => if v495 30 0 11 = 4 then (kb2 (g_X8_takes v495 1 1) (fun r512 v513 => Option.bind (g_X8_isWell v513) (fun r515 => if r515 = 0 then (some v513) else (if (8 : Int32) + ((3 : Int32) * 0) < 0 ∨ 65 ≤ Int32.toNatClampNeg ((8 : Int32) + ((3 : Int32) * 0)) then none else (Option.bind (some (up3 v513 37 0 (Int32.toNatClampNeg ((8 : Int32) + ((3 : Int32) * 0))) r448)) (fun v519 => if ((8 : Int32) + ((3 : Int32) * 0)) + 1 < 0 ∨ 65 ≤ Int32.toNatClampNeg (((8 : Int32) + ((3 : Int32) * 0)) + 1) then none else (Option.bind (some (up3 v519 37 0 (Int32.toNatClampNeg (((8 : Int32) + ((3 : Int32) * 0)) + 1)) r451)) (fun v521 => if ((8 : Int32) + ((3 : Int32) * 0)) + 2 < 0 ∨ 65 ≤ Int32.toNatClampNeg (((8 : Int32) + ((3 : Int32) * 0)) + 2) then none else (Option.bind (some (up3 v521 37 0 (Int32.toNatClampNeg (((8 : Int32) + ((3 : Int32) * 0)) + 2)) (r494 - 97))) (fun v523 => Option.bind (some (up3 v523 37 0 (Int32.toNatClampNeg 3) ((v523 37 0 (Int32.toNatClampNeg 3)) + 1))) (fun v524 => some v524))))))))))) else (kb2 (g_X8_takes v495 0 1) (fun r498 v499 => Option.bind (g_X8_isWell v499) (fun r501 => if r501 = 0 then (some v499) else (if (8 : Int32) + ((3 : Int32) * 0) < 0 ∨ 65 ≤ Int32.toNatClampNeg ((8 : Int32) + ((3 : Int32) * 0)) then none else (Option.bind (some (up3 v499 37 0 (Int32.toNatClampNeg ((8 : Int32) + ((3 : Int32) * 0))) r448)) (fun v505 => if ((8 : Int32) + ((3 : Int32) * 0)) + 1 < 0 ∨ 65 ≤ Int32.toNatClampNeg (((8 : Int32) + ((3 : Int32) * 0)) + 1) then none else (Option.bind (some (up3 v505 37 0 (Int32.toNatClampNeg (((8 : Int32) + ((3 : Int32) * 0)) + 1)) r451)) (fun v507 => if ((8 : Int32) + ((3 : Int32) * 0)) + 2 < 0 ∨ 65 ≤ Int32.toNatClampNeg (((8 : Int32) + ((3 : Int32) * 0)) + 2) then none else (Option.bind (some (up3 v507 37 0 (Int32.toNatClampNeg (((8 : Int32) + ((3 : Int32) * 0)) + 2)) (r494 - 97))) (fun v509 => Option.bind (some (up3 v509 37 0 (Int32.toNatClampNeg 3) ((v509 37 0 (Int32.toNatClampNeg 3)) + 1))) (fun v510 => some v510))))))))))))) else (kb2 (g_X8_takes v452 0 2) (fun r462 v463 => if v463 30 0 11 = 4 then (kb2 (g_X8_takes v463 1 1) (fun r480 v481 => Option.bind (g_X8_isWell v481) (fun r483 => if r483 = 0 then (some v481) else (if (8 : Int32) + ((3 : Int32) * 0) < 0 ∨ 65 ≤ Int32.toNatClampNeg ((8 : Int32) + ((3 : Int32) * 0)) then none else (Option.bind (some (up3 v481 37 0 (Int32.toNatClampNeg ((8 : Int32) + ((3 : Int32) * 0))) r448)) (fun v487 => if ((8 : Int32) + ((3 : Int32) * 0)) + 1 < 0 ∨ 65 ≤ Int32.toNatClampNeg (((8 : Int32) + ((3 : Int32) * 0)) + 1) then none else (Option.bind (some (up3 v487 37 0 (Int32.toNatClampNeg (((8 : Int32) + ((3 : Int32) * 0)) + 1)) r451)) (fun v489 => if ((8 : Int32) + ((3 : Int32) * 0)) + 2 < 0 ∨ 65 ≤ Int32.toNatClampNeg (((8 : Int32) + ((3 : Int32) * 0)) + 2) then none else (Option.bind (some (up3 v489 37 0 (Int32.toNatClampNeg (((8 : Int32) + ((3 : Int32) * 0)) + 2)) (r462 - 97))) (fun v491 => Option.bind (some (up3 v491 37 0 (Int32.toNatClampNeg 3) ((v491 37 0 (Int32.toNatClampNeg 3)) + 1))) (fun v492 => some v492))))))))))) else (kb2 (g_X8_takes v463 0 1) (fun r466 v467 => Option.bind (g_X8_isWell v467) (fun r469 => if r469 = 0 then (some v467) else (if (8 : Int32) + ((3 : Int32) * 0) < 0 ∨ 65 ≤ Int32.toNatClampNeg ((8 : Int32) + ((3 : Int32) * 0)) then none else (Option.bind (some (up3 v467 37 0 (Int32.toNatClampNeg ((8 : Int32) + ((3 : Int32) * 0))) r448)) (fun v473 => if ((8 : Int32) + ((3 : Int32) * 0)) + 1 < 0 ∨ 65 ≤ Int32.toNatClampNeg (((8 : Int32) + ((3 : Int32) * 0)) + 1) then none else (Option.bind (some (up3 v473 37 0 (Int32.toNatClampNeg (((8 : Int32) + ((3 : Int32) * 0)) + 1)) r451)) (fun v475 => if ((8 : Int32) + ((3 : Int32) * 0)) + 2 < 0 ∨ 65 ≤ Int32.toNatClampNeg (((8 : Int32) + ((3 : Int32) * 0)) + 2) then none else (Option.bind (some (up3 v475 37 0 (Int32.toNatClampNeg (((8 : Int32) + ((3 : Int32) * 0)) + 2)) (r462 - 97))) (fun v477 => Option.bind (some (up3 v477 37 0 (Int32.toNatClampNeg 3) ((v477 37 0 (Int32.toNatClampNeg 3)) + 1))) (fun v478 => some v478))))))))))))))) else (if v452 30 0 11 = 1 then (Option.bind (g_X8_isTold v452 r448 r451 ((v452 30 0 12) - 97)) (fun r527 => if r527 = 0 then (kb2 (g_X8_takes v452 1 2) (fun r563 v564 => if v564 30 0 11 = 4 then (kb2 (g_X8_takes v564 1 1) (fun r581 v582 => Option.bind (g_X8_isWell v582) (fun r584 => if r584 = 0 then (some v582) else (if (8 : Int32) + ((3 : Int32) * 0) < 0 ∨ 65 ≤ Int32.toNatClampNeg ((8 : Int32) + ((3 : Int32) * 0)) then none else (Option.bind (some (up3 v582 37 0 (Int32.toNatClampNeg ((8 : Int32) + ((3 : Int32) * 0))) r448)) (fun v588 => if ((8 : Int32) + ((3 : Int32) * 0)) + 1 < 0 ∨ 65 ≤ Int32.toNatClampNeg (((8 : Int32) + ((3 : Int32) * 0)) + 1) then none else (Option.bind (some (up3 v588 37 0 (Int32.toNatClampNeg (((8 : Int32) + ((3 : Int32) * 0)) + 1)) r451)) (fun v590 => if ((8 : Int32) + ((3 : Int32) * 0)) + 2 < 0 ∨ 65 ≤ Int32.toNatClampNeg (((8 : Int32) + ((3 : Int32) * 0)) + 2) then none else (Option.bind (some (up3 v590 37 0 (Int32.toNatClampNeg (((8 : Int32) + ((3 : Int32) * 0)) + 2)) (r563 - 97))) (fun v592 => Option.bind (some (up3 v592 37 0 (Int32.toNatClampNeg 3) ((v592 37 0 (Int32.toNatClampNeg 3)) + 1))) (fun v593 => some v593))))))))))) else (kb2 (g_X8_takes v564 0 1) (fun r567 v568 => Option.bind (g_X8_isWell v568) (fun r570 => if r570 = 0 then (some v568) else (if (8 : Int32) + ((3 : Int32) * 0) < 0 ∨ 65 ≤ Int32.toNatClampNeg ((8 : Int32) + ((3 : Int32) * 0)) then none else (Option.bind (some (up3 v568 37 0 (Int32.toNatClampNeg ((8 : Int32) + ((3 : Int32) * 0))) r448)) (fun v574 => if ((8 : Int32) + ((3 : Int32) * 0)) + 1 < 0 ∨ 65 ≤ Int32.toNatClampNeg (((8 : Int32) + ((3 : Int32) * 0)) + 1) then none else (Option.bind (some (up3 v574 37 0 (Int32.toNatClampNeg (((8 : Int32) + ((3 : Int32) * 0)) + 1)) r451)) (fun v576 => if ((8 : Int32) + ((3 : Int32) * 0)) + 2 < 0 ∨ 65 ≤ Int32.toNatClampNeg (((8 : Int32) + ((3 : Int32) * 0)) + 2) then none else (Option.bind (some (up3 v576 37 0 (Int32.toNatClampNeg (((8 : Int32) + ((3 : Int32) * 0)) + 2)) (r563 - 97))) (fun v578 => Option.bind (some (up3 v578 37 0 (Int32.toNatClampNeg 3) ((v578 37 0 (Int32.toNatClampNeg 3)) + 1))) (fun v579 => some v579))))))))))))) else (kb2 (g_X8_takes v452 0 2) (fun r531 v532 => if v532 30 0 11 = 4 then (kb2 (g_X8_takes v532 1 1) (fun r549 v550 => Option.bind (g_X8_isWell v550) (fun r552 => if r552 = 0 then (some v550) else (if (8 : Int32) + ((3 : Int32) * 0) < 0 ∨ 65 ≤ Int32.toNatClampNeg ((8 : Int32) + ((3 : Int32) * 0)) then none else (Option.bind (some (up3 v550 37 0 (Int32.toNatClampNeg ((8 : Int32) + ((3 : Int32) * 0))) r448)) (fun v556 => if ((8 : Int32) + ((3 : Int32) * 0)) + 1 < 0 ∨ 65 ≤ Int32.toNatClampNeg (((8 : Int32) + ((3 : Int32) * 0)) + 1) then none else (Option.bind (some (up3 v556 37 0 (Int32.toNatClampNeg (((8 : Int32) + ((3 : Int32) * 0)) + 1)) r451)) (fun v558 => if ((8 : Int32) + ((3 : Int32) * 0)) + 2 < 0 ∨ 65 ≤ Int32.toNatClampNeg (((8 : Int32) + ((3 : Int32) * 0)) + 2) then none else (Option.bind (some (up3 v558 37 0 (Int32.toNatClampNeg (((8 : Int32) + ((3 : Int32) * 0)) + 2)) (r531 - 97))) (fun v560 => Option.bind (some (up3 v560 37 0 (Int32.toNatClampNeg 3) ((v560 37 0 (Int32.toNatClampNeg 3)) + 1))) (fun v561 => some v561))))))))))) else (kb2 (g_X8_takes v532 0 1) (fun r535 v536 => Option.bind (g_X8_isWell v536) (fun r538 => if r538 = 0 then (some v536) else (if (8 : Int32) + ((3 : Int32) * 0) < 0 ∨ 65 ≤ Int32.toNatClampNeg ((8 : Int32) + ((3 : Int32) * 0)) then none else (Option.bind (some (up3 v536 37 0 (Int32.toNatClampNeg ((8 : Int32) + ((3 : Int32) * 0))) r448)) (fun v542 => if ((8 : Int32) + ((3 : Int32) * 0)) + 1 < 0 ∨ 65 ≤ Int32.toNatClampNeg (((8 : Int32) + ((3 : Int32) * 0)) + 1) then none else (Option.bind (some (up3 v542 37 0 (Int32.toNatClampNeg (((8 : Int32) + ((3 : Int32) * 0)) + 1)) r451)) (fun v544 => if ((8 : Int32) + ((3 : Int32) * 0)) + 2 < 0 ∨ 65 ≤ Int32.toNatClampNeg (((8 : Int32) + ((3 : Int32) * 0)) + 2) then none else (Option.bind (some (up3 v544 37 0 (Int32.toNatClampNeg (((8 : Int32) + ((3 : Int32) * 0)) + 2)) (r531 - 97))) (fun v546 => Option.bind (some (up3 v546 37 0 (Int32.toNatClampNeg 3) ((v546 37 0 (Int32.toNatClampNeg 3)) + 1))) (fun v547 => some v547))))))))))))))) else (kb2 (g_X8_takes v452 0 1) (fun r595 v596 => Option.bind (g_X8_isTold v596 r448 r451 ((v596 30 0 12) - 97)) (fun r598 => if r598 = 0 then (kb2 (g_X8_takes v596 1 2) (fun r634 v635 => if v635 30 0 11 = 4 then (kb2 (g_X8_takes v635 1 1) (fun r652 v653 => Option.bind (g_X8_isWell v653) (fun r655 => if r655 = 0 then (some v653) else (if (8 : Int32) + ((3 : Int32) * 0) < 0 ∨ 65 ≤ Int32.toNatClampNeg ((8 : Int32) + ((3 : Int32) * 0)) then none else (Option.bind (some (up3 v653 37 0 (Int32.toNatClampNeg ((8 : Int32) + ((3 : Int32) * 0))) r448)) (fun v659 => if ((8 : Int32) + ((3 : Int32) * 0)) + 1 < 0 ∨ 65 ≤ Int32.toNatClampNeg (((8 : Int32) + ((3 : Int32) * 0)) + 1) then none else (Option.bind (some (up3 v659 37 0 (Int32.toNatClampNeg (((8 : Int32) + ((3 : Int32) * 0)) + 1)) r451)) (fun v661 => if ((8 : Int32) + ((3 : Int32) * 0)) + 2 < 0 ∨ 65 ≤ Int32.toNatClampNeg (((8 : Int32) + ((3 : Int32) * 0)) + 2) then none else (Option.bind (some (up3 v661 37 0 (Int32.toNatClampNeg (((8 : Int32) + ((3 : Int32) * 0)) + 2)) (r634 - 97))) (fun v663 => Option.bind (some (up3 v663 37 0 (Int32.toNatClampNeg 3) ((v663 37 0 (Int32.toNatClampNeg 3)) + 1))) (fun v664 => some v664))))))))))) else (kb2 (g_X8_takes v635 0 1) (fun r638 v639 => Option.bind (g_X8_isWell v639) (fun r641 => if r641 = 0 then (some v639) else (if (8 : Int32) + ((3 : Int32) * 0) < 0 ∨ 65 ≤ Int32.toNatClampNeg ((8 : Int32) + ((3 : Int32) * 0)) then none else (Option.bind (some (up3 v639 37 0 (Int32.toNatClampNeg ((8 : Int32) + ((3 : Int32) * 0))) r448)) (fun v645 => if ((8 : Int32) + ((3 : Int32) * 0)) + 1 < 0 ∨ 65 ≤ Int32.toNatClampNeg (((8 : Int32) + ((3 : Int32) * 0)) + 1) then none else (Option.bind (some (up3 v645 37 0 (Int32.toNatClampNeg (((8 : Int32) + ((3 : Int32) * 0)) + 1)) r451)) (fun v647 => if ((8 : Int32) + ((3 : Int32) * 0)) + 2 < 0 ∨ 65 ≤ Int32.toNatClampNeg (((8 : Int32) + ((3 : Int32) * 0)) + 2) then none else (Option.bind (some (up3 v647 37 0 (Int32.toNatClampNeg (((8 : Int32) + ((3 : Int32) * 0)) + 2)) (r634 - 97))) (fun v649 => Option.bind (some (up3 v649 37 0 (Int32.toNatClampNeg 3) ((v649 37 0 (Int32.toNatClampNeg 3)) + 1))) (fun v650 => some v650))))))))))))) else (kb2 (g_X8_takes v596 0 2) (fun r602 v603 => if v603 30 0 11 = 4 then (kb2 (g_X8_takes v603 1 1) (fun r620 v621 => Option.bind (g_X8_isWell v621) (fun r623 => if r623 = 0 then (some v621) else (if (8 : Int32) + ((3 : Int32) * 0) < 0 ∨ 65 ≤ Int32.toNatClampNeg ((8 : Int32) + ((3 : Int32) * 0)) then none else (Option.bind (some (up3 v621 37 0 (Int32.toNatClampNeg ((8 : Int32) + ((3 : Int32) * 0))) r448)) (fun v627 => if ((8 : Int32) + ((3 : Int32) * 0)) + 1 < 0 ∨ 65 ≤ Int32.toNatClampNeg (((8 : Int32) + ((3 : Int32) * 0)) + 1) then none else (Option.bind (some (up3 v627 37 0 (Int32.toNatClampNeg (((8 : Int32) + ((3 : Int32) * 0)) + 1)) r451)) (fun v629 => if ((8 : Int32) + ((3 : Int32) * 0)) + 2 < 0 ∨ 65 ≤ Int32.toNatClampNeg (((8 : Int32) + ((3 : Int32) * 0)) + 2) then none else (Option.bind (some (up3 v629 37 0 (Int32.toNatClampNeg (((8 : Int32) + ((3 : Int32) * 0)) + 2)) (r602 - 97))) (fun v631 => Option.bind (some (up3 v631 37 0 (Int32.toNatClampNeg 3) ((v631 37 0 (Int32.toNatClampNeg 3)) + 1))) (fun v632 => some v632))))))))))) else (kb2 (g_X8_takes v603 0 1) (fun r606 v607 => Option.bind (g_X8_isWell v607) (fun r609 => if r609 = 0 then (some v607) else (if (8 : Int32) + ((3 : Int32) * 0) < 0 ∨ 65 ≤ Int32.toNatClampNeg ((8 : Int32) + ((3 : Int32) * 0)) then none else (Option.bind (some (up3 v607 37 0 (Int32.toNatClampNeg ((8 : Int32) + ((3 : Int32) * 0))) r448)) (fun v613 => if ((8 : Int32) + ((3 : Int32) * 0)) + 1 < 0 ∨ 65 ≤ Int32.toNatClampNeg (((8 : Int32) + ((3 : Int32) * 0)) + 1) then none else (Option.bind (some (up3 v613 37 0 (Int32.toNatClampNeg (((8 : Int32) + ((3 : Int32) * 0)) + 1)) r451)) (fun v615 => if ((8 : Int32) + ((3 : Int32) * 0)) + 2 < 0 ∨ 65 ≤ Int32.toNatClampNeg (((8 : Int32) + ((3 : Int32) * 0)) + 2) then none else (Option.bind (some (up3 v615 37 0 (Int32.toNatClampNeg (((8 : Int32) + ((3 : Int32) * 0)) + 2)) (r602 - 97))) (fun v617 => Option.bind (some (up3 v617 37 0 (Int32.toNatClampNeg 3) ((v617 37 0 (Int32.toNatClampNeg 3)) + 1))) (fun v618 => some v618))))))))))))))))))))) else (Option.bind (some ((8 : Int32) + ((3 : Int32) * (v445 37 0 (Int32.toNatClampNeg 3))))) (fun x665 => kb2 (g_X8_letterOf v445) (fun r667 v668 => kb2 (g_X8_letterOf v668) (fun r670 v671 => Option.bind (g_X8_isWell v671) (fun r673 => if r673 = 0 then (Option.bind (g_X8_isTold v671 r667 r670 ((v671 30 0 12) - 97)) (fun r677 => if r677 = 0 then (kb2 (g_X8_takes v671 1 2) (fun r713 v714 => if v714 30 0 11 = 4 then (kb2 (g_X8_takes v714 1 1) (fun r731 v732 => Option.bind (g_X8_isWell v732) (fun r734 => if r734 = 0 then (some v732) else (if x665 < 0 ∨ 65 ≤ Int32.toNatClampNeg x665 then none else (Option.bind (some (up3 v732 37 0 (Int32.toNatClampNeg x665) r667)) (fun v738 => if x665 + 1 < 0 ∨ 65 ≤ Int32.toNatClampNeg (x665 + 1) then none else (Option.bind (some (up3 v738 37 0 (Int32.toNatClampNeg (x665 + 1)) r670)) (fun v740 => if x665 + 2 < 0 ∨ 65 ≤ Int32.toNatClampNeg (x665 + 2) then none else (Option.bind (some (up3 v740 37 0 (Int32.toNatClampNeg (x665 + 2)) (r713 - 97))) (fun v742 => Option.bind (some (up3 v742 37 0 (Int32.toNatClampNeg 3) ((v742 37 0 (Int32.toNatClampNeg 3)) + 1))) (fun v743 => some v743))))))))))) else (kb2 (g_X8_takes v714 0 1) (fun r717 v718 => Option.bind (g_X8_isWell v718) (fun r720 => if r720 = 0 then (some v718) else (if x665 < 0 ∨ 65 ≤ Int32.toNatClampNeg x665 then none else (Option.bind (some (up3 v718 37 0 (Int32.toNatClampNeg x665) r667)) (fun v724 => if x665 + 1 < 0 ∨ 65 ≤ Int32.toNatClampNeg (x665 + 1) then none else (Option.bind (some (up3 v724 37 0 (Int32.toNatClampNeg (x665 + 1)) r670)) (fun v726 => if x665 + 2 < 0 ∨ 65 ≤ Int32.toNatClampNeg (x665 + 2) then none else (Option.bind (some (up3 v726 37 0 (Int32.toNatClampNeg (x665 + 2)) (r713 - 97))) (fun v728 => Option.bind (some (up3 v728 37 0 (Int32.toNatClampNeg 3) ((v728 37 0 (Int32.toNatClampNeg 3)) + 1))) (fun v729 => some v729))))))))))))) else (kb2 (g_X8_takes v671 0 2) (fun r681 v682 => if v682 30 0 11 = 4 then (kb2 (g_X8_takes v682 1 1) (fun r699 v700 => Option.bind (g_X8_isWell v700) (fun r702 => if r702 = 0 then (some v700) else (if x665 < 0 ∨ 65 ≤ Int32.toNatClampNeg x665 then none else (Option.bind (some (up3 v700 37 0 (Int32.toNatClampNeg x665) r667)) (fun v706 => if x665 + 1 < 0 ∨ 65 ≤ Int32.toNatClampNeg (x665 + 1) then none else (Option.bind (some (up3 v706 37 0 (Int32.toNatClampNeg (x665 + 1)) r670)) (fun v708 => if x665 + 2 < 0 ∨ 65 ≤ Int32.toNatClampNeg (x665 + 2) then none else (Option.bind (some (up3 v708 37 0 (Int32.toNatClampNeg (x665 + 2)) (r681 - 97))) (fun v710 => Option.bind (some (up3 v710 37 0 (Int32.toNatClampNeg 3) ((v710 37 0 (Int32.toNatClampNeg 3)) + 1))) (fun v711 => some v711))))))))))) else (kb2 (g_X8_takes v682 0 1) (fun r685 v686 => Option.bind (g_X8_isWell v686) (fun r688 => if r688 = 0 then (some v686) else (if x665 < 0 ∨ 65 ≤ Int32.toNatClampNeg x665 then none else (Option.bind (some (up3 v686 37 0 (Int32.toNatClampNeg x665) r667)) (fun v692 => if x665 + 1 < 0 ∨ 65 ≤ Int32.toNatClampNeg (x665 + 1) then none else (Option.bind (some (up3 v692 37 0 (Int32.toNatClampNeg (x665 + 1)) r670)) (fun v694 => if x665 + 2 < 0 ∨ 65 ≤ Int32.toNatClampNeg (x665 + 2) then none else (Option.bind (some (up3 v694 37 0 (Int32.toNatClampNeg (x665 + 2)) (r681 - 97))) (fun v696 => Option.bind (some (up3 v696 37 0 (Int32.toNatClampNeg 3) ((v696 37 0 (Int32.toNatClampNeg 3)) + 1))) (fun v697 => some v697))))))))))))))) else (if v671 30 0 11 = 1 then (Option.bind (g_X8_isTold v671 r667 r670 ((v671 30 0 12) - 97)) (fun r746 => if r746 = 0 then (kb2 (g_X8_takes v671 1 2) (fun r782 v783 => if v783 30 0 11 = 4 then (kb2 (g_X8_takes v783 1 1) (fun r800 v801 => Option.bind (g_X8_isWell v801) (fun r803 => if r803 = 0 then (some v801) else (if x665 < 0 ∨ 65 ≤ Int32.toNatClampNeg x665 then none else (Option.bind (some (up3 v801 37 0 (Int32.toNatClampNeg x665) r667)) (fun v807 => if x665 + 1 < 0 ∨ 65 ≤ Int32.toNatClampNeg (x665 + 1) then none else (Option.bind (some (up3 v807 37 0 (Int32.toNatClampNeg (x665 + 1)) r670)) (fun v809 => if x665 + 2 < 0 ∨ 65 ≤ Int32.toNatClampNeg (x665 + 2) then none else (Option.bind (some (up3 v809 37 0 (Int32.toNatClampNeg (x665 + 2)) (r782 - 97))) (fun v811 => Option.bind (some (up3 v811 37 0 (Int32.toNatClampNeg 3) ((v811 37 0 (Int32.toNatClampNeg 3)) + 1))) (fun v812 => some v812))))))))))) else (kb2 (g_X8_takes v783 0 1) (fun r786 v787 => Option.bind (g_X8_isWell v787) (fun r789 => if r789 = 0 then (some v787) else (if x665 < 0 ∨ 65 ≤ Int32.toNatClampNeg x665 then none else (Option.bind (some (up3 v787 37 0 (Int32.toNatClampNeg x665) r667)) (fun v793 => if x665 + 1 < 0 ∨ 65 ≤ Int32.toNatClampNeg (x665 + 1) then none else (Option.bind (some (up3 v793 37 0 (Int32.toNatClampNeg (x665 + 1)) r670)) (fun v795 => if x665 + 2 < 0 ∨ 65 ≤ Int32.toNatClampNeg (x665 + 2) then none else (Option.bind (some (up3 v795 37 0 (Int32.toNatClampNeg (x665 + 2)) (r782 - 97))) (fun v797 => Option.bind (some (up3 v797 37 0 (Int32.toNatClampNeg 3) ((v797 37 0 (Int32.toNatClampNeg 3)) + 1))) (fun v798 => some v798))))))))))))) else (kb2 (g_X8_takes v671 0 2) (fun r750 v751 => if v751 30 0 11 = 4 then (kb2 (g_X8_takes v751 1 1) (fun r768 v769 => Option.bind (g_X8_isWell v769) (fun r771 => if r771 = 0 then (some v769) else (if x665 < 0 ∨ 65 ≤ Int32.toNatClampNeg x665 then none else (Option.bind (some (up3 v769 37 0 (Int32.toNatClampNeg x665) r667)) (fun v775 => if x665 + 1 < 0 ∨ 65 ≤ Int32.toNatClampNeg (x665 + 1) then none else (Option.bind (some (up3 v775 37 0 (Int32.toNatClampNeg (x665 + 1)) r670)) (fun v777 => if x665 + 2 < 0 ∨ 65 ≤ Int32.toNatClampNeg (x665 + 2) then none else (Option.bind (some (up3 v777 37 0 (Int32.toNatClampNeg (x665 + 2)) (r750 - 97))) (fun v779 => Option.bind (some (up3 v779 37 0 (Int32.toNatClampNeg 3) ((v779 37 0 (Int32.toNatClampNeg 3)) + 1))) (fun v780 => some v780))))))))))) else (kb2 (g_X8_takes v751 0 1) (fun r754 v755 => Option.bind (g_X8_isWell v755) (fun r757 => if r757 = 0 then (some v755) else (if x665 < 0 ∨ 65 ≤ Int32.toNatClampNeg x665 then none else (Option.bind (some (up3 v755 37 0 (Int32.toNatClampNeg x665) r667)) (fun v761 => if x665 + 1 < 0 ∨ 65 ≤ Int32.toNatClampNeg (x665 + 1) then none else (Option.bind (some (up3 v761 37 0 (Int32.toNatClampNeg (x665 + 1)) r670)) (fun v763 => if x665 + 2 < 0 ∨ 65 ≤ Int32.toNatClampNeg (x665 + 2) then none else (Option.bind (some (up3 v763 37 0 (Int32.toNatClampNeg (x665 + 2)) (r750 - 97))) (fun v765 => Option.bind (some (up3 v765 37 0 (Int32.toNatClampNeg 3) ((v765 37 0 (Int32.toNatClampNeg 3)) + 1))) (fun v766 => some v766))))))))))))))) else (kb2 (g_X8_takes v671 0 1) (fun r814 v815 => Option.bind (g_X8_isTold v815 r667 r670 ((v815 30 0 12) - 97)) (fun r817 => if r817 = 0 then (kb2 (g_X8_takes v815 1 2) (fun r853 v854 => if v854 30 0 11 = 4 then (kb2 (g_X8_takes v854 1 1) (fun r871 v872 => Option.bind (g_X8_isWell v872) (fun r874 => if r874 = 0 then (some v872) else (if x665 < 0 ∨ 65 ≤ Int32.toNatClampNeg x665 then none else (Option.bind (some (up3 v872 37 0 (Int32.toNatClampNeg x665) r667)) (fun v878 => if x665 + 1 < 0 ∨ 65 ≤ Int32.toNatClampNeg (x665 + 1) then none else (Option.bind (some (up3 v878 37 0 (Int32.toNatClampNeg (x665 + 1)) r670)) (fun v880 => if x665 + 2 < 0 ∨ 65 ≤ Int32.toNatClampNeg (x665 + 2) then none else (Option.bind (some (up3 v880 37 0 (Int32.toNatClampNeg (x665 + 2)) (r853 - 97))) (fun v882 => Option.bind (some (up3 v882 37 0 (Int32.toNatClampNeg 3) ((v882 37 0 (Int32.toNatClampNeg 3)) + 1))) (fun v883 => some v883))))))))))) else (kb2 (g_X8_takes v854 0 1) (fun r857 v858 => Option.bind (g_X8_isWell v858) (fun r860 => if r860 = 0 then (some v858) else (if x665 < 0 ∨ 65 ≤ Int32.toNatClampNeg x665 then none else (Option.bind (some (up3 v858 37 0 (Int32.toNatClampNeg x665) r667)) (fun v864 => if x665 + 1 < 0 ∨ 65 ≤ Int32.toNatClampNeg (x665 + 1) then none else (Option.bind (some (up3 v864 37 0 (Int32.toNatClampNeg (x665 + 1)) r670)) (fun v866 => if x665 + 2 < 0 ∨ 65 ≤ Int32.toNatClampNeg (x665 + 2) then none else (Option.bind (some (up3 v866 37 0 (Int32.toNatClampNeg (x665 + 2)) (r853 - 97))) (fun v868 => Option.bind (some (up3 v868 37 0 (Int32.toNatClampNeg 3) ((v868 37 0 (Int32.toNatClampNeg 3)) + 1))) (fun v869 => some v869))))))))))))) else (kb2 (g_X8_takes v815 0 2) (fun r821 v822 => if v822 30 0 11 = 4 then (kb2 (g_X8_takes v822 1 1) (fun r839 v840 => Option.bind (g_X8_isWell v840) (fun r842 => if r842 = 0 then (some v840) else (if x665 < 0 ∨ 65 ≤ Int32.toNatClampNeg x665 then none else (Option.bind (some (up3 v840 37 0 (Int32.toNatClampNeg x665) r667)) (fun v846 => if x665 + 1 < 0 ∨ 65 ≤ Int32.toNatClampNeg (x665 + 1) then none else (Option.bind (some (up3 v846 37 0 (Int32.toNatClampNeg (x665 + 1)) r670)) (fun v848 => if x665 + 2 < 0 ∨ 65 ≤ Int32.toNatClampNeg (x665 + 2) then none else (Option.bind (some (up3 v848 37 0 (Int32.toNatClampNeg (x665 + 2)) (r821 - 97))) (fun v850 => Option.bind (some (up3 v850 37 0 (Int32.toNatClampNeg 3) ((v850 37 0 (Int32.toNatClampNeg 3)) + 1))) (fun v851 => some v851))))))))))) else (kb2 (g_X8_takes v822 0 1) (fun r825 v826 => Option.bind (g_X8_isWell v826) (fun r828 => if r828 = 0 then (some v826) else (if x665 < 0 ∨ 65 ≤ Int32.toNatClampNeg x665 then none else (Option.bind (some (up3 v826 37 0 (Int32.toNatClampNeg x665) r667)) (fun v832 => if x665 + 1 < 0 ∨ 65 ≤ Int32.toNatClampNeg (x665 + 1) then none else (Option.bind (some (up3 v832 37 0 (Int32.toNatClampNeg (x665 + 1)) r670)) (fun v834 => if x665 + 2 < 0 ∨ 65 ≤ Int32.toNatClampNeg (x665 + 2) then none else (Option.bind (some (up3 v834 37 0 (Int32.toNatClampNeg (x665 + 2)) (r821 - 97))) (fun v836 => Option.bind (some (up3 v836 37 0 (Int32.toNatClampNeg 3) ((v836 37 0 (Int32.toNatClampNeg 3)) + 1))) (fun v837 => some v837))))))))))))))))))))))))
set_option maxHeartbeats 4000000 in
set_option maxRecDepth 100000 in
theorem d_X8_readsWord (l : Launch) (E : kq_T) (Z : km_Z) (v : Mm) (hs : g_X8_readsWord v ≠ none) : km_V l E Z cntM yX8_readsWord wsX8_readsWord rmX8_readsWord [.ref (Z.1 30 0)] v (fun v1 => g_X8_readsWord v = some v1) := by
  refine km_goV (cc := cX8_readsWord) (maxL := 5) (by decide) rfl (Nat.le_of_ble_eq_true rfl) rfl rfl rfl ?_
  intro p e s m below meth c A ls Q C hK hw hl hret
  obtain ⟨hx, hb, hml, hown, hts, -, -, -⟩ := C
  have hown : s.vm.findClass RX8 = some m.cls := hown
  have hl : lv_has ls 5 [(0, .ref (Z.1 30 0))] := hl
  have hF := g_X8_readsWord.eq_1 v 
  refine lv_aload_n hx hb dX8_readsWord_0 rfl (lv_at hl 0 rfl) ?_
  refine lv_aload_n hx hb dX8_readsWord_1 rfl (lv_at hl 0 rfl) ?_
  refine km_get (ci := 8) (C := RX8) (T := TX8) (N := 23) (t := 30) (i := 0) hx hb hts fi_X8_readsWord_X8 hown hK hw (by decide) (by decide) rfl rfl 14 (by decide) (hts (.fieldLink RX8 28 "WrongWordModel" "draft" "[I") ow_X8_readsWord_28) rfl dX8_readsWord_2 ?_
  refine lv_iconst (v := 3) hx hb dX8_readsWord_5 (by decide) ?_
  refine km_iald (t := 37) (i := 0) hx hb hK hw (by decide) (by decide) rfl (by unfold vp_in; decide) dX8_readsWord_6 ?_
  refine lv_bipush (v := 6) hx hb dX8_readsWord_7 (by decide) ?_
  refine lv_icmp_ge (tgt := 16) hx hb dX8_readsWord_9 (by decide) (fun c1 => ?_) (fun c1 => ?_)
  · skip
    have hF := hF.trans (if_pos c1)
    refine lv_iconst (v := 0) hx hb dX8_readsWord_16 (by decide) ?_
    refine lv_iconst (v := 3) hx hb dX8_readsWord_17 (by decide) ?_
    have hs2 : g_X8_takes v 0 3 ≠ none := fun q => hs (hF.trans (kb2_n q _))
    refine km_cI (As := [.int 0, .int 3]) (rest := []) (n := 2) (q := (RX8, TX8, 23)) (ci := 8) (t := 30) (i := 0) ⟨hx, hb, hml, hown, hts⟩ (d_X8_takes l E Z v 0 3 hs2) gX8_readsWord_X8_takes rfl hV_X8_takes ⟨Nat.le_of_ble_eq_true rfl, Nat.le_of_ble_eq_true rfl⟩ hK hw (by decide) (by decide) rfl rfl rfl hl.1 rfl (Nat.le_of_ble_eq_true rfl) dX8_readsWord_18 rfl rfl (fun r3 v4 H locs hp hw => ?_)
    have hF := hF.trans (kb2_some hp _)
    refine lv_pop hx hb dX8_readsWord_21 rfl ?_
    refine lv_bipush (v := 8) hx hb dX8_readsWord_22 (by decide) ?_
    refine lv_iconst (v := 3) hx hb dX8_readsWord_24 (by decide) ?_
    refine lv_aload_n hx hb dX8_readsWord_25 rfl (lv_at hl 0 rfl) ?_
    refine km_get (ci := 8) (C := RX8) (T := TX8) (N := 23) (t := 30) (i := 0) hx hb hts fi_X8_readsWord_X8 hown hK hw (by decide) (by decide) rfl rfl 14 (by decide) (hts (.fieldLink RX8 28 "WrongWordModel" "draft" "[I") ow_X8_readsWord_28) rfl dX8_readsWord_26 ?_
    refine lv_iconst (v := 3) hx hb dX8_readsWord_29 (by decide) ?_
    refine km_iald (t := 37) (i := 0) hx hb hK hw (by decide) (by decide) rfl (by unfold vp_in; decide) dX8_readsWord_30 ?_
    refine lv_bipush (v := 6) hx hb dX8_readsWord_31 (by decide) ?_
    refine lv_icmp_ge (tgt := 45) hx hb dX8_readsWord_33 (by decide) (fun c5 => ?_) (fun c5 => ?_)
    · skip
      have hF := hF.trans (if_pos c5)
      refine lv_iconst (v := 0) hx hb dX8_readsWord_45 (by decide) ?_
      refine lv_imul hx hb dX8_readsWord_46 ?_
      refine lv_iadd hx hb dX8_readsWord_47 ?_
      refine lv_istore_n (lv' := [(1, .int ((8 : Int32) + ((3 : Int32) * 0))), (0, .ref (Z.1 30 0))]) hx hb dX8_readsWord_48 rfl hl (by decide) rfl (fun ls hl => ?_)
      refine lv_aload_n hx hb dX8_readsWord_49 rfl (lv_at hl 1 rfl) ?_
      have hs6 : g_X8_letterOf v4 ≠ none := fun q => hs (hF.trans (kb2_n q _))
      refine km_cI (As := []) (rest := []) (n := 0) (q := (RX8, TX8, 23)) (ci := 8) (t := 30) (i := 0) ⟨hx, hb, hml, hown, hts⟩ (d_X8_letterOf l E Z v4  hs6) gX8_readsWord_X8_letterOf rfl hV_X8_letterOf ⟨Nat.le_of_ble_eq_true rfl, Nat.le_of_ble_eq_true rfl⟩ hK hw (by decide) (by decide) rfl rfl rfl hl.1 rfl (Nat.le_of_ble_eq_true rfl) dX8_readsWord_50 rfl rfl (fun r7 v8 H locs hp hw => ?_)
      have hF := hF.trans (kb2_some hp _)
      refine lv_istore_n (lv' := [(2, .int r7), (1, .int ((8 : Int32) + ((3 : Int32) * 0))), (0, .ref (Z.1 30 0))]) hx hb dX8_readsWord_53 rfl hl (by decide) rfl (fun ls hl => ?_)
      refine lv_aload_n hx hb dX8_readsWord_54 rfl (lv_at hl 2 rfl) ?_
      have hs9 : g_X8_letterOf v8 ≠ none := fun q => hs (hF.trans (kb2_n q _))
      refine km_cI (As := []) (rest := []) (n := 0) (q := (RX8, TX8, 23)) (ci := 8) (t := 30) (i := 0) ⟨hx, hb, hml, hown, hts⟩ (d_X8_letterOf l E Z v8  hs9) gX8_readsWord_X8_letterOf rfl hV_X8_letterOf ⟨Nat.le_of_ble_eq_true rfl, Nat.le_of_ble_eq_true rfl⟩ hK hw (by decide) (by decide) rfl rfl rfl hl.1 rfl (Nat.le_of_ble_eq_true rfl) dX8_readsWord_55 rfl rfl (fun r10 v11 H locs hp hw => ?_)
      have hF := hF.trans (kb2_some hp _)
      refine lv_istore_n (lv' := [(3, .int r10), (2, .int r7), (1, .int ((8 : Int32) + ((3 : Int32) * 0))), (0, .ref (Z.1 30 0))]) hx hb dX8_readsWord_58 rfl hl (by decide) rfl (fun ls hl => ?_)
      refine lv_aload_n hx hb dX8_readsWord_59 rfl (lv_at hl 3 rfl) ?_
      have hs12 : g_X8_isWell v11 ≠ none := fun q => hs (hF.trans (kb_n q _))
      refine km_cI (As := []) (rest := []) (n := 0) (q := (RX8, TX8, 23)) (ci := 8) (t := 30) (i := 0) ⟨hx, hb, hml, hown, hts⟩ (d_X8_isWell l E Z v11  hs12) gX8_readsWord_X8_isWell rfl hV_X8_isWell ⟨Nat.le_of_ble_eq_true rfl, Nat.le_of_ble_eq_true rfl⟩ hK hw (by decide) (by decide) rfl rfl rfl hl.1 rfl (Nat.le_of_ble_eq_true rfl) dX8_readsWord_60 rfl rfl (fun r13 v14 H locs hp hw => ?_)
      obtain ⟨hp, hzr13⟩ := hp
      obtain ⟨hp, rfl⟩ := hp
      have hF := hF.trans (kb_some hp _)
      refine lv_if_eq (tgt := 81) hx hb dX8_readsWord_63 (by decide) (fun c15 => ?_) (fun c15 => ?_)
      · skip
        have hF := hF.trans (if_pos c15)
        refine lv_aload_n hx hb dX8_readsWord_81 rfl (lv_at hl 3 rfl) ?_
        refine lv_aload_n hx hb dX8_readsWord_82 rfl (lv_at hl 3 rfl) ?_
        refine lv_iload_n hx hb dX8_readsWord_83 rfl (lv_at hl 1 rfl) ?_
        refine lv_iload_n hx hb dX8_readsWord_84 rfl (lv_at hl 0 rfl) ?_
        refine lv_aload_n hx hb dX8_readsWord_85 rfl (lv_at hl 3 rfl) ?_
        refine km_get (ci := 8) (C := RX8) (T := TX8) (N := 23) (t := 30) (i := 0) hx hb hts fi_X8_readsWord_X8 hown hK hw (by decide) (by decide) rfl rfl 12 (by decide) (hts (.fieldLink RX8 95 "WrongWordModel" "value" "I") ow_X8_readsWord_95) rfl dX8_readsWord_86 ?_
        refine lv_bipush (v := 97) hx hb dX8_readsWord_89 (by decide) ?_
        refine lv_isub hx hb dX8_readsWord_91 ?_
        have hs16 : g_X8_isTold v11 r7 r10 ((v11 30 0 12) - 97) ≠ none := fun q => hs (hF.trans (kb_n q _))
        refine km_cI (As := [.int r7, .int r10, .int ((v11 30 0 12) - 97)]) (rest := [.ref (Z.1 30 0)]) (n := 3) (q := (RX8, TX8, 23)) (ci := 8) (t := 30) (i := 0) ⟨hx, hb, hml, hown, hts⟩ (d_X8_isTold l E Z v11 r7 r10 ((v11 30 0 12) - 97) hs16) gX8_readsWord_X8_isTold rfl hV_X8_isTold ⟨Nat.le_of_ble_eq_true rfl, Nat.le_of_ble_eq_true rfl⟩ hK hw (by decide) (by decide) rfl rfl rfl hl.1 rfl (Nat.le_of_ble_eq_true rfl) dX8_readsWord_92 rfl rfl (fun r17 v18 H locs hp hw => ?_)
        obtain ⟨hp, hzr17⟩ := hp
        obtain ⟨hp, rfl⟩ := hp
        have hF := hF.trans (kb_some hp _)
        refine lv_if_ne (tgt := 102) hx hb dX8_readsWord_95 (by decide) (fun c19 => ?_) (fun c19 => ?_)
        · skip
          have hF := hF.trans (if_neg c19)
          refine lv_iconst (v := 0) hx hb dX8_readsWord_102 (by decide) ?_
          refine lv_iconst (v := 2) hx hb dX8_readsWord_103 (by decide) ?_
          have hs20 : g_X8_takes v11 0 2 ≠ none := fun q => hs (hF.trans (kb2_n q _))
          refine km_cI (As := [.int 0, .int 2]) (rest := []) (n := 2) (q := (RX8, TX8, 23)) (ci := 8) (t := 30) (i := 0) ⟨hx, hb, hml, hown, hts⟩ (d_X8_takes l E Z v11 0 2 hs20) gX8_readsWord_X8_takes rfl hV_X8_takes ⟨Nat.le_of_ble_eq_true rfl, Nat.le_of_ble_eq_true rfl⟩ hK hw (by decide) (by decide) rfl rfl rfl hl.1 rfl (Nat.le_of_ble_eq_true rfl) dX8_readsWord_104 rfl rfl (fun r21 v22 H locs hp hw => ?_)
          have hF := hF.trans (kb2_some hp _)
          refine lv_bipush (v := 97) hx hb dX8_readsWord_107 (by decide) ?_
          refine lv_isub hx hb dX8_readsWord_109 ?_
          refine lv_istore (lv' := [(4, .int (r21 - 97)), (3, .int r10), (2, .int r7), (1, .int ((8 : Int32) + ((3 : Int32) * 0))), (0, .ref (Z.1 30 0))]) hx hb dX8_readsWord_110 hl (by decide) rfl (fun ls hl => ?_)
          refine lv_aload_n hx hb dX8_readsWord_112 rfl (lv_at hl 4 rfl) ?_
          refine lv_aload_n hx hb dX8_readsWord_113 rfl (lv_at hl 4 rfl) ?_
          refine km_get (ci := 8) (C := RX8) (T := TX8) (N := 23) (t := 30) (i := 0) hx hb hts fi_X8_readsWord_X8 hown hK hw (by decide) (by decide) rfl rfl 11 (by decide) (hts (.fieldLink RX8 98 "WrongWordModel" "token" "I") ow_X8_readsWord_98) rfl dX8_readsWord_114 ?_
          refine lv_iconst (v := 4) hx hb dX8_readsWord_117 (by decide) ?_
          refine lv_icmp_ne (tgt := 125) hx hb dX8_readsWord_118 (by decide) (fun c23 => ?_) (fun c23 => ?_)
          · skip
            have hF := hF.trans (if_neg c23)
            refine lv_iconst (v := 0) hx hb dX8_readsWord_125 (by decide) ?_
            refine lv_iconst (v := 1) hx hb dX8_readsWord_126 (by decide) ?_
            have hs24 : g_X8_takes v22 0 1 ≠ none := fun q => hs (hF.trans (kb2_n q _))
            refine km_cI (As := [.int 0, .int 1]) (rest := []) (n := 2) (q := (RX8, TX8, 23)) (ci := 8) (t := 30) (i := 0) ⟨hx, hb, hml, hown, hts⟩ (d_X8_takes l E Z v22 0 1 hs24) gX8_readsWord_X8_takes rfl hV_X8_takes ⟨Nat.le_of_ble_eq_true rfl, Nat.le_of_ble_eq_true rfl⟩ hK hw (by decide) (by decide) rfl rfl rfl hl.1 rfl (Nat.le_of_ble_eq_true rfl) dX8_readsWord_127 rfl rfl (fun r25 v26 H locs hp hw => ?_)
            have hF := hF.trans (kb2_some hp _)
            refine lv_pop hx hb dX8_readsWord_130 rfl ?_
            refine lv_aload_n hx hb dX8_readsWord_131 rfl (lv_at hl 4 rfl) ?_
            have hs27 : g_X8_isWell v26 ≠ none := fun q => hs (hF.trans (kb_n q _))
            refine km_cI (As := []) (rest := []) (n := 0) (q := (RX8, TX8, 23)) (ci := 8) (t := 30) (i := 0) ⟨hx, hb, hml, hown, hts⟩ (d_X8_isWell l E Z v26  hs27) gX8_readsWord_X8_isWell rfl hV_X8_isWell ⟨Nat.le_of_ble_eq_true rfl, Nat.le_of_ble_eq_true rfl⟩ hK hw (by decide) (by decide) rfl rfl rfl hl.1 rfl (Nat.le_of_ble_eq_true rfl) dX8_readsWord_132 rfl rfl (fun r28 v29 H locs hp hw => ?_)
            obtain ⟨hp, hzr28⟩ := hp
            obtain ⟨hp, rfl⟩ := hp
            have hF := hF.trans (kb_some hp _)
            refine lv_if_eq (tgt := 174) hx hb dX8_readsWord_135 (by decide) (fun c30 => ?_) (fun c30 => ?_)
            · skip
              have hF := hF.trans (if_pos c30)
              exact hret _ _ _ _ _ hw dX8_readsWord_174 hF
            · skip
              have hF := hF.trans (if_neg c30)
              refine lv_aload_n hx hb dX8_readsWord_138 rfl (lv_at hl 4 rfl) ?_
              refine km_get (ci := 8) (C := RX8) (T := TX8) (N := 23) (t := 30) (i := 0) hx hb hts fi_X8_readsWord_X8 hown hK hw (by decide) (by decide) rfl rfl 14 (by decide) (hts (.fieldLink RX8 28 "WrongWordModel" "draft" "[I") ow_X8_readsWord_28) rfl dX8_readsWord_139 ?_
              refine lv_iload_n hx hb dX8_readsWord_142 rfl (lv_at hl 3 rfl) ?_
              refine lv_iload_n hx hb dX8_readsWord_143 rfl (lv_at hl 2 rfl) ?_
              have hb31 : ¬ ((8 : Int32) + ((3 : Int32) * 0) < 0 ∨ 65 ≤ Int32.toNatClampNeg ((8 : Int32) + ((3 : Int32) * 0))) := fun q => hs (hF.trans (if_pos q))
              have hF := hF.trans (if_neg hb31)
              refine km_iast (t := 37) (i := 0) (n := 65) hx hb hK hw (by decide) (by decide) (fun _ => rfl) hb31 dX8_readsWord_144 (fun H locs hw => ?_)
              obtain ⟨v32, ev32⟩ : ∃ z, z = up3 v26 37 0 (Int32.toNatClampNeg ((8 : Int32) + ((3 : Int32) * 0))) r7 := ⟨_, rfl⟩
              rw [← ev32] at hw
              have hF := hF.trans (kb_some (congrArg some ev32.symm) _)
              refine lv_aload_n hx hb dX8_readsWord_145 rfl (lv_at hl 4 rfl) ?_
              refine km_get (ci := 8) (C := RX8) (T := TX8) (N := 23) (t := 30) (i := 0) hx hb hts fi_X8_readsWord_X8 hown hK hw (by decide) (by decide) rfl rfl 14 (by decide) (hts (.fieldLink RX8 28 "WrongWordModel" "draft" "[I") ow_X8_readsWord_28) rfl dX8_readsWord_146 ?_
              refine lv_iload_n hx hb dX8_readsWord_149 rfl (lv_at hl 3 rfl) ?_
              refine lv_iconst (v := 1) hx hb dX8_readsWord_150 (by decide) ?_
              refine lv_iadd hx hb dX8_readsWord_151 ?_
              refine lv_iload_n hx hb dX8_readsWord_152 rfl (lv_at hl 1 rfl) ?_
              have hb33 : ¬ (((8 : Int32) + ((3 : Int32) * 0)) + 1 < 0 ∨ 65 ≤ Int32.toNatClampNeg (((8 : Int32) + ((3 : Int32) * 0)) + 1)) := fun q => hs (hF.trans (if_pos q))
              have hF := hF.trans (if_neg hb33)
              refine km_iast (t := 37) (i := 0) (n := 65) hx hb hK hw (by decide) (by decide) (fun _ => rfl) hb33 dX8_readsWord_153 (fun H locs hw => ?_)
              obtain ⟨v34, ev34⟩ : ∃ z, z = up3 v32 37 0 (Int32.toNatClampNeg (((8 : Int32) + ((3 : Int32) * 0)) + 1)) r10 := ⟨_, rfl⟩
              rw [← ev34] at hw
              have hF := hF.trans (kb_some (congrArg some ev34.symm) _)
              refine lv_aload_n hx hb dX8_readsWord_154 rfl (lv_at hl 4 rfl) ?_
              refine km_get (ci := 8) (C := RX8) (T := TX8) (N := 23) (t := 30) (i := 0) hx hb hts fi_X8_readsWord_X8 hown hK hw (by decide) (by decide) rfl rfl 14 (by decide) (hts (.fieldLink RX8 28 "WrongWordModel" "draft" "[I") ow_X8_readsWord_28) rfl dX8_readsWord_155 ?_
              refine lv_iload_n hx hb dX8_readsWord_158 rfl (lv_at hl 3 rfl) ?_
              refine lv_iconst (v := 2) hx hb dX8_readsWord_159 (by decide) ?_
              refine lv_iadd hx hb dX8_readsWord_160 ?_
              refine lv_iload hx hb dX8_readsWord_161 (lv_at hl 0 rfl) ?_
              have hb35 : ¬ (((8 : Int32) + ((3 : Int32) * 0)) + 2 < 0 ∨ 65 ≤ Int32.toNatClampNeg (((8 : Int32) + ((3 : Int32) * 0)) + 2)) := fun q => hs (hF.trans (if_pos q))
              have hF := hF.trans (if_neg hb35)
              refine km_iast (t := 37) (i := 0) (n := 65) hx hb hK hw (by decide) (by decide) (fun _ => rfl) hb35 dX8_readsWord_163 (fun H locs hw => ?_)
              obtain ⟨v36, ev36⟩ : ∃ z, z = up3 v34 37 0 (Int32.toNatClampNeg (((8 : Int32) + ((3 : Int32) * 0)) + 2)) (r21 - 97) := ⟨_, rfl⟩
              rw [← ev36] at hw
              have hF := hF.trans (kb_some (congrArg some ev36.symm) _)
              refine lv_aload_n hx hb dX8_readsWord_164 rfl (lv_at hl 4 rfl) ?_
              refine km_get (ci := 8) (C := RX8) (T := TX8) (N := 23) (t := 30) (i := 0) hx hb hts fi_X8_readsWord_X8 hown hK hw (by decide) (by decide) rfl rfl 14 (by decide) (hts (.fieldLink RX8 28 "WrongWordModel" "draft" "[I") ow_X8_readsWord_28) rfl dX8_readsWord_165 ?_
              refine lv_iconst (v := 3) hx hb dX8_readsWord_168 (by decide) ?_
              refine lv_dup2_11 hx hb dX8_readsWord_169 rfl rfl ?_
              refine km_iald (t := 37) (i := 0) hx hb hK hw (by decide) (by decide) rfl (by unfold vp_in; decide) dX8_readsWord_170 ?_
              refine lv_iconst (v := 1) hx hb dX8_readsWord_171 (by decide) ?_
              refine lv_iadd hx hb dX8_readsWord_172 ?_
              refine km_iast (t := 37) (i := 0) (n := 65) hx hb hK hw (by decide) (by decide) (fun _ => rfl) (by unfold vp_in; decide) dX8_readsWord_173 (fun H locs hw => ?_)
              obtain ⟨v37, ev37⟩ : ∃ z, z = up3 v36 37 0 (Int32.toNatClampNeg 3) ((v36 37 0 (Int32.toNatClampNeg 3)) + 1) := ⟨_, rfl⟩
              rw [← ev37] at hw
              have hF := hF.trans (kb_some (congrArg some ev37.symm) _)
              exact hret _ _ _ _ _ hw dX8_readsWord_174 hF
          · skip
            have hF := hF.trans (if_pos c23)
            refine lv_iconst (v := 1) hx hb dX8_readsWord_121 (by decide) ?_
            refine lv_goto (tgt := 126) hx hb dX8_readsWord_122 (by decide) ?_
            refine lv_iconst (v := 1) hx hb dX8_readsWord_126 (by decide) ?_
            have hs38 : g_X8_takes v22 1 1 ≠ none := fun q => hs (hF.trans (kb2_n q _))
            refine km_cI (As := [.int 1, .int 1]) (rest := []) (n := 2) (q := (RX8, TX8, 23)) (ci := 8) (t := 30) (i := 0) ⟨hx, hb, hml, hown, hts⟩ (d_X8_takes l E Z v22 1 1 hs38) gX8_readsWord_X8_takes rfl hV_X8_takes ⟨Nat.le_of_ble_eq_true rfl, Nat.le_of_ble_eq_true rfl⟩ hK hw (by decide) (by decide) rfl rfl rfl hl.1 rfl (Nat.le_of_ble_eq_true rfl) dX8_readsWord_127 rfl rfl (fun r39 v40 H locs hp hw => ?_)
            have hF := hF.trans (kb2_some hp _)
            refine lv_pop hx hb dX8_readsWord_130 rfl ?_
            refine lv_aload_n hx hb dX8_readsWord_131 rfl (lv_at hl 4 rfl) ?_
            have hs41 : g_X8_isWell v40 ≠ none := fun q => hs (hF.trans (kb_n q _))
            refine km_cI (As := []) (rest := []) (n := 0) (q := (RX8, TX8, 23)) (ci := 8) (t := 30) (i := 0) ⟨hx, hb, hml, hown, hts⟩ (d_X8_isWell l E Z v40  hs41) gX8_readsWord_X8_isWell rfl hV_X8_isWell ⟨Nat.le_of_ble_eq_true rfl, Nat.le_of_ble_eq_true rfl⟩ hK hw (by decide) (by decide) rfl rfl rfl hl.1 rfl (Nat.le_of_ble_eq_true rfl) dX8_readsWord_132 rfl rfl (fun r42 v43 H locs hp hw => ?_)
            obtain ⟨hp, hzr42⟩ := hp
            obtain ⟨hp, rfl⟩ := hp
            have hF := hF.trans (kb_some hp _)
            refine lv_if_eq (tgt := 174) hx hb dX8_readsWord_135 (by decide) (fun c44 => ?_) (fun c44 => ?_)
            · skip
              have hF := hF.trans (if_pos c44)
              exact hret _ _ _ _ _ hw dX8_readsWord_174 hF
            · skip
              have hF := hF.trans (if_neg c44)
              refine lv_aload_n hx hb dX8_readsWord_138 rfl (lv_at hl 4 rfl) ?_
              refine km_get (ci := 8) (C := RX8) (T := TX8) (N := 23) (t := 30) (i := 0) hx hb hts fi_X8_readsWord_X8 hown hK hw (by decide) (by decide) rfl rfl 14 (by decide) (hts (.fieldLink RX8 28 "WrongWordModel" "draft" "[I") ow_X8_readsWord_28) rfl dX8_readsWord_139 ?_
              refine lv_iload_n hx hb dX8_readsWord_142 rfl (lv_at hl 3 rfl) ?_
              refine lv_iload_n hx hb dX8_readsWord_143 rfl (lv_at hl 2 rfl) ?_
              have hb45 : ¬ ((8 : Int32) + ((3 : Int32) * 0) < 0 ∨ 65 ≤ Int32.toNatClampNeg ((8 : Int32) + ((3 : Int32) * 0))) := fun q => hs (hF.trans (if_pos q))
              have hF := hF.trans (if_neg hb45)
              refine km_iast (t := 37) (i := 0) (n := 65) hx hb hK hw (by decide) (by decide) (fun _ => rfl) hb45 dX8_readsWord_144 (fun H locs hw => ?_)
              obtain ⟨v46, ev46⟩ : ∃ z, z = up3 v40 37 0 (Int32.toNatClampNeg ((8 : Int32) + ((3 : Int32) * 0))) r7 := ⟨_, rfl⟩
              rw [← ev46] at hw
              have hF := hF.trans (kb_some (congrArg some ev46.symm) _)
              refine lv_aload_n hx hb dX8_readsWord_145 rfl (lv_at hl 4 rfl) ?_
              refine km_get (ci := 8) (C := RX8) (T := TX8) (N := 23) (t := 30) (i := 0) hx hb hts fi_X8_readsWord_X8 hown hK hw (by decide) (by decide) rfl rfl 14 (by decide) (hts (.fieldLink RX8 28 "WrongWordModel" "draft" "[I") ow_X8_readsWord_28) rfl dX8_readsWord_146 ?_
              refine lv_iload_n hx hb dX8_readsWord_149 rfl (lv_at hl 3 rfl) ?_
              refine lv_iconst (v := 1) hx hb dX8_readsWord_150 (by decide) ?_
              refine lv_iadd hx hb dX8_readsWord_151 ?_
              refine lv_iload_n hx hb dX8_readsWord_152 rfl (lv_at hl 1 rfl) ?_
              have hb47 : ¬ (((8 : Int32) + ((3 : Int32) * 0)) + 1 < 0 ∨ 65 ≤ Int32.toNatClampNeg (((8 : Int32) + ((3 : Int32) * 0)) + 1)) := fun q => hs (hF.trans (if_pos q))
              have hF := hF.trans (if_neg hb47)
              refine km_iast (t := 37) (i := 0) (n := 65) hx hb hK hw (by decide) (by decide) (fun _ => rfl) hb47 dX8_readsWord_153 (fun H locs hw => ?_)
              obtain ⟨v48, ev48⟩ : ∃ z, z = up3 v46 37 0 (Int32.toNatClampNeg (((8 : Int32) + ((3 : Int32) * 0)) + 1)) r10 := ⟨_, rfl⟩
              rw [← ev48] at hw
              have hF := hF.trans (kb_some (congrArg some ev48.symm) _)
              refine lv_aload_n hx hb dX8_readsWord_154 rfl (lv_at hl 4 rfl) ?_
              refine km_get (ci := 8) (C := RX8) (T := TX8) (N := 23) (t := 30) (i := 0) hx hb hts fi_X8_readsWord_X8 hown hK hw (by decide) (by decide) rfl rfl 14 (by decide) (hts (.fieldLink RX8 28 "WrongWordModel" "draft" "[I") ow_X8_readsWord_28) rfl dX8_readsWord_155 ?_
              refine lv_iload_n hx hb dX8_readsWord_158 rfl (lv_at hl 3 rfl) ?_
              refine lv_iconst (v := 2) hx hb dX8_readsWord_159 (by decide) ?_
              refine lv_iadd hx hb dX8_readsWord_160 ?_
              refine lv_iload hx hb dX8_readsWord_161 (lv_at hl 0 rfl) ?_
              have hb49 : ¬ (((8 : Int32) + ((3 : Int32) * 0)) + 2 < 0 ∨ 65 ≤ Int32.toNatClampNeg (((8 : Int32) + ((3 : Int32) * 0)) + 2)) := fun q => hs (hF.trans (if_pos q))
              have hF := hF.trans (if_neg hb49)
              refine km_iast (t := 37) (i := 0) (n := 65) hx hb hK hw (by decide) (by decide) (fun _ => rfl) hb49 dX8_readsWord_163 (fun H locs hw => ?_)
              obtain ⟨v50, ev50⟩ : ∃ z, z = up3 v48 37 0 (Int32.toNatClampNeg (((8 : Int32) + ((3 : Int32) * 0)) + 2)) (r21 - 97) := ⟨_, rfl⟩
              rw [← ev50] at hw
              have hF := hF.trans (kb_some (congrArg some ev50.symm) _)
              refine lv_aload_n hx hb dX8_readsWord_164 rfl (lv_at hl 4 rfl) ?_
              refine km_get (ci := 8) (C := RX8) (T := TX8) (N := 23) (t := 30) (i := 0) hx hb hts fi_X8_readsWord_X8 hown hK hw (by decide) (by decide) rfl rfl 14 (by decide) (hts (.fieldLink RX8 28 "WrongWordModel" "draft" "[I") ow_X8_readsWord_28) rfl dX8_readsWord_165 ?_
              refine lv_iconst (v := 3) hx hb dX8_readsWord_168 (by decide) ?_
              refine lv_dup2_11 hx hb dX8_readsWord_169 rfl rfl ?_
              refine km_iald (t := 37) (i := 0) hx hb hK hw (by decide) (by decide) rfl (by unfold vp_in; decide) dX8_readsWord_170 ?_
              refine lv_iconst (v := 1) hx hb dX8_readsWord_171 (by decide) ?_
              refine lv_iadd hx hb dX8_readsWord_172 ?_
              refine km_iast (t := 37) (i := 0) (n := 65) hx hb hK hw (by decide) (by decide) (fun _ => rfl) (by unfold vp_in; decide) dX8_readsWord_173 (fun H locs hw => ?_)
              obtain ⟨v51, ev51⟩ : ∃ z, z = up3 v50 37 0 (Int32.toNatClampNeg 3) ((v50 37 0 (Int32.toNatClampNeg 3)) + 1) := ⟨_, rfl⟩
              rw [← ev51] at hw
              have hF := hF.trans (kb_some (congrArg some ev51.symm) _)
              exact hret _ _ _ _ _ hw dX8_readsWord_174 hF
        · skip
          have hF := hF.trans (if_pos c19)
          refine lv_iconst (v := 1) hx hb dX8_readsWord_98 (by decide) ?_
          refine lv_goto (tgt := 103) hx hb dX8_readsWord_99 (by decide) ?_
          refine lv_iconst (v := 2) hx hb dX8_readsWord_103 (by decide) ?_
          have hs52 : g_X8_takes v11 1 2 ≠ none := fun q => hs (hF.trans (kb2_n q _))
          refine km_cI (As := [.int 1, .int 2]) (rest := []) (n := 2) (q := (RX8, TX8, 23)) (ci := 8) (t := 30) (i := 0) ⟨hx, hb, hml, hown, hts⟩ (d_X8_takes l E Z v11 1 2 hs52) gX8_readsWord_X8_takes rfl hV_X8_takes ⟨Nat.le_of_ble_eq_true rfl, Nat.le_of_ble_eq_true rfl⟩ hK hw (by decide) (by decide) rfl rfl rfl hl.1 rfl (Nat.le_of_ble_eq_true rfl) dX8_readsWord_104 rfl rfl (fun r53 v54 H locs hp hw => ?_)
          have hF := hF.trans (kb2_some hp _)
          refine lv_bipush (v := 97) hx hb dX8_readsWord_107 (by decide) ?_
          refine lv_isub hx hb dX8_readsWord_109 ?_
          refine lv_istore (lv' := [(4, .int (r53 - 97)), (3, .int r10), (2, .int r7), (1, .int ((8 : Int32) + ((3 : Int32) * 0))), (0, .ref (Z.1 30 0))]) hx hb dX8_readsWord_110 hl (by decide) rfl (fun ls hl => ?_)
          refine lv_aload_n hx hb dX8_readsWord_112 rfl (lv_at hl 4 rfl) ?_
          refine lv_aload_n hx hb dX8_readsWord_113 rfl (lv_at hl 4 rfl) ?_
          refine km_get (ci := 8) (C := RX8) (T := TX8) (N := 23) (t := 30) (i := 0) hx hb hts fi_X8_readsWord_X8 hown hK hw (by decide) (by decide) rfl rfl 11 (by decide) (hts (.fieldLink RX8 98 "WrongWordModel" "token" "I") ow_X8_readsWord_98) rfl dX8_readsWord_114 ?_
          refine lv_iconst (v := 4) hx hb dX8_readsWord_117 (by decide) ?_
          refine lv_icmp_ne (tgt := 125) hx hb dX8_readsWord_118 (by decide) (fun c55 => ?_) (fun c55 => ?_)
          · skip
            have hF := hF.trans (if_neg c55)
            refine lv_iconst (v := 0) hx hb dX8_readsWord_125 (by decide) ?_
            refine lv_iconst (v := 1) hx hb dX8_readsWord_126 (by decide) ?_
            have hs56 : g_X8_takes v54 0 1 ≠ none := fun q => hs (hF.trans (kb2_n q _))
            refine km_cI (As := [.int 0, .int 1]) (rest := []) (n := 2) (q := (RX8, TX8, 23)) (ci := 8) (t := 30) (i := 0) ⟨hx, hb, hml, hown, hts⟩ (d_X8_takes l E Z v54 0 1 hs56) gX8_readsWord_X8_takes rfl hV_X8_takes ⟨Nat.le_of_ble_eq_true rfl, Nat.le_of_ble_eq_true rfl⟩ hK hw (by decide) (by decide) rfl rfl rfl hl.1 rfl (Nat.le_of_ble_eq_true rfl) dX8_readsWord_127 rfl rfl (fun r57 v58 H locs hp hw => ?_)
            have hF := hF.trans (kb2_some hp _)
            refine lv_pop hx hb dX8_readsWord_130 rfl ?_
            refine lv_aload_n hx hb dX8_readsWord_131 rfl (lv_at hl 4 rfl) ?_
            have hs59 : g_X8_isWell v58 ≠ none := fun q => hs (hF.trans (kb_n q _))
            refine km_cI (As := []) (rest := []) (n := 0) (q := (RX8, TX8, 23)) (ci := 8) (t := 30) (i := 0) ⟨hx, hb, hml, hown, hts⟩ (d_X8_isWell l E Z v58  hs59) gX8_readsWord_X8_isWell rfl hV_X8_isWell ⟨Nat.le_of_ble_eq_true rfl, Nat.le_of_ble_eq_true rfl⟩ hK hw (by decide) (by decide) rfl rfl rfl hl.1 rfl (Nat.le_of_ble_eq_true rfl) dX8_readsWord_132 rfl rfl (fun r60 v61 H locs hp hw => ?_)
            obtain ⟨hp, hzr60⟩ := hp
            obtain ⟨hp, rfl⟩ := hp
            have hF := hF.trans (kb_some hp _)
            refine lv_if_eq (tgt := 174) hx hb dX8_readsWord_135 (by decide) (fun c62 => ?_) (fun c62 => ?_)
            · skip
              have hF := hF.trans (if_pos c62)
              exact hret _ _ _ _ _ hw dX8_readsWord_174 hF
            · skip
              have hF := hF.trans (if_neg c62)
              refine lv_aload_n hx hb dX8_readsWord_138 rfl (lv_at hl 4 rfl) ?_
              refine km_get (ci := 8) (C := RX8) (T := TX8) (N := 23) (t := 30) (i := 0) hx hb hts fi_X8_readsWord_X8 hown hK hw (by decide) (by decide) rfl rfl 14 (by decide) (hts (.fieldLink RX8 28 "WrongWordModel" "draft" "[I") ow_X8_readsWord_28) rfl dX8_readsWord_139 ?_
              refine lv_iload_n hx hb dX8_readsWord_142 rfl (lv_at hl 3 rfl) ?_
              refine lv_iload_n hx hb dX8_readsWord_143 rfl (lv_at hl 2 rfl) ?_
              have hb63 : ¬ ((8 : Int32) + ((3 : Int32) * 0) < 0 ∨ 65 ≤ Int32.toNatClampNeg ((8 : Int32) + ((3 : Int32) * 0))) := fun q => hs (hF.trans (if_pos q))
              have hF := hF.trans (if_neg hb63)
              refine km_iast (t := 37) (i := 0) (n := 65) hx hb hK hw (by decide) (by decide) (fun _ => rfl) hb63 dX8_readsWord_144 (fun H locs hw => ?_)
              obtain ⟨v64, ev64⟩ : ∃ z, z = up3 v58 37 0 (Int32.toNatClampNeg ((8 : Int32) + ((3 : Int32) * 0))) r7 := ⟨_, rfl⟩
              rw [← ev64] at hw
              have hF := hF.trans (kb_some (congrArg some ev64.symm) _)
              refine lv_aload_n hx hb dX8_readsWord_145 rfl (lv_at hl 4 rfl) ?_
              refine km_get (ci := 8) (C := RX8) (T := TX8) (N := 23) (t := 30) (i := 0) hx hb hts fi_X8_readsWord_X8 hown hK hw (by decide) (by decide) rfl rfl 14 (by decide) (hts (.fieldLink RX8 28 "WrongWordModel" "draft" "[I") ow_X8_readsWord_28) rfl dX8_readsWord_146 ?_
              refine lv_iload_n hx hb dX8_readsWord_149 rfl (lv_at hl 3 rfl) ?_
              refine lv_iconst (v := 1) hx hb dX8_readsWord_150 (by decide) ?_
              refine lv_iadd hx hb dX8_readsWord_151 ?_
              refine lv_iload_n hx hb dX8_readsWord_152 rfl (lv_at hl 1 rfl) ?_
              have hb65 : ¬ (((8 : Int32) + ((3 : Int32) * 0)) + 1 < 0 ∨ 65 ≤ Int32.toNatClampNeg (((8 : Int32) + ((3 : Int32) * 0)) + 1)) := fun q => hs (hF.trans (if_pos q))
              have hF := hF.trans (if_neg hb65)
              refine km_iast (t := 37) (i := 0) (n := 65) hx hb hK hw (by decide) (by decide) (fun _ => rfl) hb65 dX8_readsWord_153 (fun H locs hw => ?_)
              obtain ⟨v66, ev66⟩ : ∃ z, z = up3 v64 37 0 (Int32.toNatClampNeg (((8 : Int32) + ((3 : Int32) * 0)) + 1)) r10 := ⟨_, rfl⟩
              rw [← ev66] at hw
              have hF := hF.trans (kb_some (congrArg some ev66.symm) _)
              refine lv_aload_n hx hb dX8_readsWord_154 rfl (lv_at hl 4 rfl) ?_
              refine km_get (ci := 8) (C := RX8) (T := TX8) (N := 23) (t := 30) (i := 0) hx hb hts fi_X8_readsWord_X8 hown hK hw (by decide) (by decide) rfl rfl 14 (by decide) (hts (.fieldLink RX8 28 "WrongWordModel" "draft" "[I") ow_X8_readsWord_28) rfl dX8_readsWord_155 ?_
              refine lv_iload_n hx hb dX8_readsWord_158 rfl (lv_at hl 3 rfl) ?_
              refine lv_iconst (v := 2) hx hb dX8_readsWord_159 (by decide) ?_
              refine lv_iadd hx hb dX8_readsWord_160 ?_
              refine lv_iload hx hb dX8_readsWord_161 (lv_at hl 0 rfl) ?_
              have hb67 : ¬ (((8 : Int32) + ((3 : Int32) * 0)) + 2 < 0 ∨ 65 ≤ Int32.toNatClampNeg (((8 : Int32) + ((3 : Int32) * 0)) + 2)) := fun q => hs (hF.trans (if_pos q))
              have hF := hF.trans (if_neg hb67)
              refine km_iast (t := 37) (i := 0) (n := 65) hx hb hK hw (by decide) (by decide) (fun _ => rfl) hb67 dX8_readsWord_163 (fun H locs hw => ?_)
              obtain ⟨v68, ev68⟩ : ∃ z, z = up3 v66 37 0 (Int32.toNatClampNeg (((8 : Int32) + ((3 : Int32) * 0)) + 2)) (r53 - 97) := ⟨_, rfl⟩
              rw [← ev68] at hw
              have hF := hF.trans (kb_some (congrArg some ev68.symm) _)
              refine lv_aload_n hx hb dX8_readsWord_164 rfl (lv_at hl 4 rfl) ?_
              refine km_get (ci := 8) (C := RX8) (T := TX8) (N := 23) (t := 30) (i := 0) hx hb hts fi_X8_readsWord_X8 hown hK hw (by decide) (by decide) rfl rfl 14 (by decide) (hts (.fieldLink RX8 28 "WrongWordModel" "draft" "[I") ow_X8_readsWord_28) rfl dX8_readsWord_165 ?_
              refine lv_iconst (v := 3) hx hb dX8_readsWord_168 (by decide) ?_
              refine lv_dup2_11 hx hb dX8_readsWord_169 rfl rfl ?_
              refine km_iald (t := 37) (i := 0) hx hb hK hw (by decide) (by decide) rfl (by unfold vp_in; decide) dX8_readsWord_170 ?_
              refine lv_iconst (v := 1) hx hb dX8_readsWord_171 (by decide) ?_
              refine lv_iadd hx hb dX8_readsWord_172 ?_
              refine km_iast (t := 37) (i := 0) (n := 65) hx hb hK hw (by decide) (by decide) (fun _ => rfl) (by unfold vp_in; decide) dX8_readsWord_173 (fun H locs hw => ?_)
              obtain ⟨v69, ev69⟩ : ∃ z, z = up3 v68 37 0 (Int32.toNatClampNeg 3) ((v68 37 0 (Int32.toNatClampNeg 3)) + 1) := ⟨_, rfl⟩
              rw [← ev69] at hw
              have hF := hF.trans (kb_some (congrArg some ev69.symm) _)
              exact hret _ _ _ _ _ hw dX8_readsWord_174 hF
          · skip
            have hF := hF.trans (if_pos c55)
            refine lv_iconst (v := 1) hx hb dX8_readsWord_121 (by decide) ?_
            refine lv_goto (tgt := 126) hx hb dX8_readsWord_122 (by decide) ?_
            refine lv_iconst (v := 1) hx hb dX8_readsWord_126 (by decide) ?_
            have hs70 : g_X8_takes v54 1 1 ≠ none := fun q => hs (hF.trans (kb2_n q _))
            refine km_cI (As := [.int 1, .int 1]) (rest := []) (n := 2) (q := (RX8, TX8, 23)) (ci := 8) (t := 30) (i := 0) ⟨hx, hb, hml, hown, hts⟩ (d_X8_takes l E Z v54 1 1 hs70) gX8_readsWord_X8_takes rfl hV_X8_takes ⟨Nat.le_of_ble_eq_true rfl, Nat.le_of_ble_eq_true rfl⟩ hK hw (by decide) (by decide) rfl rfl rfl hl.1 rfl (Nat.le_of_ble_eq_true rfl) dX8_readsWord_127 rfl rfl (fun r71 v72 H locs hp hw => ?_)
            have hF := hF.trans (kb2_some hp _)
            refine lv_pop hx hb dX8_readsWord_130 rfl ?_
            refine lv_aload_n hx hb dX8_readsWord_131 rfl (lv_at hl 4 rfl) ?_
            have hs73 : g_X8_isWell v72 ≠ none := fun q => hs (hF.trans (kb_n q _))
            refine km_cI (As := []) (rest := []) (n := 0) (q := (RX8, TX8, 23)) (ci := 8) (t := 30) (i := 0) ⟨hx, hb, hml, hown, hts⟩ (d_X8_isWell l E Z v72  hs73) gX8_readsWord_X8_isWell rfl hV_X8_isWell ⟨Nat.le_of_ble_eq_true rfl, Nat.le_of_ble_eq_true rfl⟩ hK hw (by decide) (by decide) rfl rfl rfl hl.1 rfl (Nat.le_of_ble_eq_true rfl) dX8_readsWord_132 rfl rfl (fun r74 v75 H locs hp hw => ?_)
            obtain ⟨hp, hzr74⟩ := hp
            obtain ⟨hp, rfl⟩ := hp
            have hF := hF.trans (kb_some hp _)
            refine lv_if_eq (tgt := 174) hx hb dX8_readsWord_135 (by decide) (fun c76 => ?_) (fun c76 => ?_)
            · skip
              have hF := hF.trans (if_pos c76)
              exact hret _ _ _ _ _ hw dX8_readsWord_174 hF
            · skip
              have hF := hF.trans (if_neg c76)
              refine lv_aload_n hx hb dX8_readsWord_138 rfl (lv_at hl 4 rfl) ?_
              refine km_get (ci := 8) (C := RX8) (T := TX8) (N := 23) (t := 30) (i := 0) hx hb hts fi_X8_readsWord_X8 hown hK hw (by decide) (by decide) rfl rfl 14 (by decide) (hts (.fieldLink RX8 28 "WrongWordModel" "draft" "[I") ow_X8_readsWord_28) rfl dX8_readsWord_139 ?_
              refine lv_iload_n hx hb dX8_readsWord_142 rfl (lv_at hl 3 rfl) ?_
              refine lv_iload_n hx hb dX8_readsWord_143 rfl (lv_at hl 2 rfl) ?_
              have hb77 : ¬ ((8 : Int32) + ((3 : Int32) * 0) < 0 ∨ 65 ≤ Int32.toNatClampNeg ((8 : Int32) + ((3 : Int32) * 0))) := fun q => hs (hF.trans (if_pos q))
              have hF := hF.trans (if_neg hb77)
              refine km_iast (t := 37) (i := 0) (n := 65) hx hb hK hw (by decide) (by decide) (fun _ => rfl) hb77 dX8_readsWord_144 (fun H locs hw => ?_)
              obtain ⟨v78, ev78⟩ : ∃ z, z = up3 v72 37 0 (Int32.toNatClampNeg ((8 : Int32) + ((3 : Int32) * 0))) r7 := ⟨_, rfl⟩
              rw [← ev78] at hw
              have hF := hF.trans (kb_some (congrArg some ev78.symm) _)
              refine lv_aload_n hx hb dX8_readsWord_145 rfl (lv_at hl 4 rfl) ?_
              refine km_get (ci := 8) (C := RX8) (T := TX8) (N := 23) (t := 30) (i := 0) hx hb hts fi_X8_readsWord_X8 hown hK hw (by decide) (by decide) rfl rfl 14 (by decide) (hts (.fieldLink RX8 28 "WrongWordModel" "draft" "[I") ow_X8_readsWord_28) rfl dX8_readsWord_146 ?_
              refine lv_iload_n hx hb dX8_readsWord_149 rfl (lv_at hl 3 rfl) ?_
              refine lv_iconst (v := 1) hx hb dX8_readsWord_150 (by decide) ?_
              refine lv_iadd hx hb dX8_readsWord_151 ?_
              refine lv_iload_n hx hb dX8_readsWord_152 rfl (lv_at hl 1 rfl) ?_
              have hb79 : ¬ (((8 : Int32) + ((3 : Int32) * 0)) + 1 < 0 ∨ 65 ≤ Int32.toNatClampNeg (((8 : Int32) + ((3 : Int32) * 0)) + 1)) := fun q => hs (hF.trans (if_pos q))
              have hF := hF.trans (if_neg hb79)
              refine km_iast (t := 37) (i := 0) (n := 65) hx hb hK hw (by decide) (by decide) (fun _ => rfl) hb79 dX8_readsWord_153 (fun H locs hw => ?_)
              obtain ⟨v80, ev80⟩ : ∃ z, z = up3 v78 37 0 (Int32.toNatClampNeg (((8 : Int32) + ((3 : Int32) * 0)) + 1)) r10 := ⟨_, rfl⟩
              rw [← ev80] at hw
              have hF := hF.trans (kb_some (congrArg some ev80.symm) _)
              refine lv_aload_n hx hb dX8_readsWord_154 rfl (lv_at hl 4 rfl) ?_
              refine km_get (ci := 8) (C := RX8) (T := TX8) (N := 23) (t := 30) (i := 0) hx hb hts fi_X8_readsWord_X8 hown hK hw (by decide) (by decide) rfl rfl 14 (by decide) (hts (.fieldLink RX8 28 "WrongWordModel" "draft" "[I") ow_X8_readsWord_28) rfl dX8_readsWord_155 ?_
              refine lv_iload_n hx hb dX8_readsWord_158 rfl (lv_at hl 3 rfl) ?_
              refine lv_iconst (v := 2) hx hb dX8_readsWord_159 (by decide) ?_
              refine lv_iadd hx hb dX8_readsWord_160 ?_
              refine lv_iload hx hb dX8_readsWord_161 (lv_at hl 0 rfl) ?_
              have hb81 : ¬ (((8 : Int32) + ((3 : Int32) * 0)) + 2 < 0 ∨ 65 ≤ Int32.toNatClampNeg (((8 : Int32) + ((3 : Int32) * 0)) + 2)) := fun q => hs (hF.trans (if_pos q))
              have hF := hF.trans (if_neg hb81)
              refine km_iast (t := 37) (i := 0) (n := 65) hx hb hK hw (by decide) (by decide) (fun _ => rfl) hb81 dX8_readsWord_163 (fun H locs hw => ?_)
              obtain ⟨v82, ev82⟩ : ∃ z, z = up3 v80 37 0 (Int32.toNatClampNeg (((8 : Int32) + ((3 : Int32) * 0)) + 2)) (r53 - 97) := ⟨_, rfl⟩
              rw [← ev82] at hw
              have hF := hF.trans (kb_some (congrArg some ev82.symm) _)
              refine lv_aload_n hx hb dX8_readsWord_164 rfl (lv_at hl 4 rfl) ?_
              refine km_get (ci := 8) (C := RX8) (T := TX8) (N := 23) (t := 30) (i := 0) hx hb hts fi_X8_readsWord_X8 hown hK hw (by decide) (by decide) rfl rfl 14 (by decide) (hts (.fieldLink RX8 28 "WrongWordModel" "draft" "[I") ow_X8_readsWord_28) rfl dX8_readsWord_165 ?_
              refine lv_iconst (v := 3) hx hb dX8_readsWord_168 (by decide) ?_
              refine lv_dup2_11 hx hb dX8_readsWord_169 rfl rfl ?_
              refine km_iald (t := 37) (i := 0) hx hb hK hw (by decide) (by decide) rfl (by unfold vp_in; decide) dX8_readsWord_170 ?_
              refine lv_iconst (v := 1) hx hb dX8_readsWord_171 (by decide) ?_
              refine lv_iadd hx hb dX8_readsWord_172 ?_
              refine km_iast (t := 37) (i := 0) (n := 65) hx hb hK hw (by decide) (by decide) (fun _ => rfl) (by unfold vp_in; decide) dX8_readsWord_173 (fun H locs hw => ?_)
              obtain ⟨v83, ev83⟩ : ∃ z, z = up3 v82 37 0 (Int32.toNatClampNeg 3) ((v82 37 0 (Int32.toNatClampNeg 3)) + 1) := ⟨_, rfl⟩
              rw [← ev83] at hw
              have hF := hF.trans (kb_some (congrArg some ev83.symm) _)
              exact hret _ _ _ _ _ hw dX8_readsWord_174 hF
      · skip
        have hF := hF.trans (if_neg c15)
        refine lv_aload_n hx hb dX8_readsWord_66 rfl (lv_at hl 3 rfl) ?_
        refine km_get (ci := 8) (C := RX8) (T := TX8) (N := 23) (t := 30) (i := 0) hx hb hts fi_X8_readsWord_X8 hown hK hw (by decide) (by decide) rfl rfl 11 (by decide) (hts (.fieldLink RX8 98 "WrongWordModel" "token" "I") ow_X8_readsWord_98) rfl dX8_readsWord_67 ?_
        refine lv_iconst (v := 1) hx hb dX8_readsWord_70 (by decide) ?_
        refine lv_icmp_eq (tgt := 81) hx hb dX8_readsWord_71 (by decide) (fun c84 => ?_) (fun c84 => ?_)
        · skip
          have hF := hF.trans (if_pos c84)
          refine lv_aload_n hx hb dX8_readsWord_81 rfl (lv_at hl 3 rfl) ?_
          refine lv_aload_n hx hb dX8_readsWord_82 rfl (lv_at hl 3 rfl) ?_
          refine lv_iload_n hx hb dX8_readsWord_83 rfl (lv_at hl 1 rfl) ?_
          refine lv_iload_n hx hb dX8_readsWord_84 rfl (lv_at hl 0 rfl) ?_
          refine lv_aload_n hx hb dX8_readsWord_85 rfl (lv_at hl 3 rfl) ?_
          refine km_get (ci := 8) (C := RX8) (T := TX8) (N := 23) (t := 30) (i := 0) hx hb hts fi_X8_readsWord_X8 hown hK hw (by decide) (by decide) rfl rfl 12 (by decide) (hts (.fieldLink RX8 95 "WrongWordModel" "value" "I") ow_X8_readsWord_95) rfl dX8_readsWord_86 ?_
          refine lv_bipush (v := 97) hx hb dX8_readsWord_89 (by decide) ?_
          refine lv_isub hx hb dX8_readsWord_91 ?_
          have hs85 : g_X8_isTold v11 r7 r10 ((v11 30 0 12) - 97) ≠ none := fun q => hs (hF.trans (kb_n q _))
          refine km_cI (As := [.int r7, .int r10, .int ((v11 30 0 12) - 97)]) (rest := [.ref (Z.1 30 0)]) (n := 3) (q := (RX8, TX8, 23)) (ci := 8) (t := 30) (i := 0) ⟨hx, hb, hml, hown, hts⟩ (d_X8_isTold l E Z v11 r7 r10 ((v11 30 0 12) - 97) hs85) gX8_readsWord_X8_isTold rfl hV_X8_isTold ⟨Nat.le_of_ble_eq_true rfl, Nat.le_of_ble_eq_true rfl⟩ hK hw (by decide) (by decide) rfl rfl rfl hl.1 rfl (Nat.le_of_ble_eq_true rfl) dX8_readsWord_92 rfl rfl (fun r86 v87 H locs hp hw => ?_)
          obtain ⟨hp, hzr86⟩ := hp
          obtain ⟨hp, rfl⟩ := hp
          have hF := hF.trans (kb_some hp _)
          refine lv_if_ne (tgt := 102) hx hb dX8_readsWord_95 (by decide) (fun c88 => ?_) (fun c88 => ?_)
          · skip
            have hF := hF.trans (if_neg c88)
            refine lv_iconst (v := 0) hx hb dX8_readsWord_102 (by decide) ?_
            refine lv_iconst (v := 2) hx hb dX8_readsWord_103 (by decide) ?_
            have hs89 : g_X8_takes v11 0 2 ≠ none := fun q => hs (hF.trans (kb2_n q _))
            refine km_cI (As := [.int 0, .int 2]) (rest := []) (n := 2) (q := (RX8, TX8, 23)) (ci := 8) (t := 30) (i := 0) ⟨hx, hb, hml, hown, hts⟩ (d_X8_takes l E Z v11 0 2 hs89) gX8_readsWord_X8_takes rfl hV_X8_takes ⟨Nat.le_of_ble_eq_true rfl, Nat.le_of_ble_eq_true rfl⟩ hK hw (by decide) (by decide) rfl rfl rfl hl.1 rfl (Nat.le_of_ble_eq_true rfl) dX8_readsWord_104 rfl rfl (fun r90 v91 H locs hp hw => ?_)
            have hF := hF.trans (kb2_some hp _)
            refine lv_bipush (v := 97) hx hb dX8_readsWord_107 (by decide) ?_
            refine lv_isub hx hb dX8_readsWord_109 ?_
            refine lv_istore (lv' := [(4, .int (r90 - 97)), (3, .int r10), (2, .int r7), (1, .int ((8 : Int32) + ((3 : Int32) * 0))), (0, .ref (Z.1 30 0))]) hx hb dX8_readsWord_110 hl (by decide) rfl (fun ls hl => ?_)
            refine lv_aload_n hx hb dX8_readsWord_112 rfl (lv_at hl 4 rfl) ?_
            refine lv_aload_n hx hb dX8_readsWord_113 rfl (lv_at hl 4 rfl) ?_
            refine km_get (ci := 8) (C := RX8) (T := TX8) (N := 23) (t := 30) (i := 0) hx hb hts fi_X8_readsWord_X8 hown hK hw (by decide) (by decide) rfl rfl 11 (by decide) (hts (.fieldLink RX8 98 "WrongWordModel" "token" "I") ow_X8_readsWord_98) rfl dX8_readsWord_114 ?_
            refine lv_iconst (v := 4) hx hb dX8_readsWord_117 (by decide) ?_
            refine lv_icmp_ne (tgt := 125) hx hb dX8_readsWord_118 (by decide) (fun c92 => ?_) (fun c92 => ?_)
            · skip
              have hF := hF.trans (if_neg c92)
              refine lv_iconst (v := 0) hx hb dX8_readsWord_125 (by decide) ?_
              refine lv_iconst (v := 1) hx hb dX8_readsWord_126 (by decide) ?_
              have hs93 : g_X8_takes v91 0 1 ≠ none := fun q => hs (hF.trans (kb2_n q _))
              refine km_cI (As := [.int 0, .int 1]) (rest := []) (n := 2) (q := (RX8, TX8, 23)) (ci := 8) (t := 30) (i := 0) ⟨hx, hb, hml, hown, hts⟩ (d_X8_takes l E Z v91 0 1 hs93) gX8_readsWord_X8_takes rfl hV_X8_takes ⟨Nat.le_of_ble_eq_true rfl, Nat.le_of_ble_eq_true rfl⟩ hK hw (by decide) (by decide) rfl rfl rfl hl.1 rfl (Nat.le_of_ble_eq_true rfl) dX8_readsWord_127 rfl rfl (fun r94 v95 H locs hp hw => ?_)
              have hF := hF.trans (kb2_some hp _)
              refine lv_pop hx hb dX8_readsWord_130 rfl ?_
              refine lv_aload_n hx hb dX8_readsWord_131 rfl (lv_at hl 4 rfl) ?_
              have hs96 : g_X8_isWell v95 ≠ none := fun q => hs (hF.trans (kb_n q _))
              refine km_cI (As := []) (rest := []) (n := 0) (q := (RX8, TX8, 23)) (ci := 8) (t := 30) (i := 0) ⟨hx, hb, hml, hown, hts⟩ (d_X8_isWell l E Z v95  hs96) gX8_readsWord_X8_isWell rfl hV_X8_isWell ⟨Nat.le_of_ble_eq_true rfl, Nat.le_of_ble_eq_true rfl⟩ hK hw (by decide) (by decide) rfl rfl rfl hl.1 rfl (Nat.le_of_ble_eq_true rfl) dX8_readsWord_132 rfl rfl (fun r97 v98 H locs hp hw => ?_)
              obtain ⟨hp, hzr97⟩ := hp
              obtain ⟨hp, rfl⟩ := hp
              have hF := hF.trans (kb_some hp _)
              refine lv_if_eq (tgt := 174) hx hb dX8_readsWord_135 (by decide) (fun c99 => ?_) (fun c99 => ?_)
              · skip
                have hF := hF.trans (if_pos c99)
                exact hret _ _ _ _ _ hw dX8_readsWord_174 hF
              · skip
                have hF := hF.trans (if_neg c99)
                refine lv_aload_n hx hb dX8_readsWord_138 rfl (lv_at hl 4 rfl) ?_
                refine km_get (ci := 8) (C := RX8) (T := TX8) (N := 23) (t := 30) (i := 0) hx hb hts fi_X8_readsWord_X8 hown hK hw (by decide) (by decide) rfl rfl 14 (by decide) (hts (.fieldLink RX8 28 "WrongWordModel" "draft" "[I") ow_X8_readsWord_28) rfl dX8_readsWord_139 ?_
                refine lv_iload_n hx hb dX8_readsWord_142 rfl (lv_at hl 3 rfl) ?_
                refine lv_iload_n hx hb dX8_readsWord_143 rfl (lv_at hl 2 rfl) ?_
                have hb100 : ¬ ((8 : Int32) + ((3 : Int32) * 0) < 0 ∨ 65 ≤ Int32.toNatClampNeg ((8 : Int32) + ((3 : Int32) * 0))) := fun q => hs (hF.trans (if_pos q))
                have hF := hF.trans (if_neg hb100)
                refine km_iast (t := 37) (i := 0) (n := 65) hx hb hK hw (by decide) (by decide) (fun _ => rfl) hb100 dX8_readsWord_144 (fun H locs hw => ?_)
                obtain ⟨v101, ev101⟩ : ∃ z, z = up3 v95 37 0 (Int32.toNatClampNeg ((8 : Int32) + ((3 : Int32) * 0))) r7 := ⟨_, rfl⟩
                rw [← ev101] at hw
                have hF := hF.trans (kb_some (congrArg some ev101.symm) _)
                refine lv_aload_n hx hb dX8_readsWord_145 rfl (lv_at hl 4 rfl) ?_
                refine km_get (ci := 8) (C := RX8) (T := TX8) (N := 23) (t := 30) (i := 0) hx hb hts fi_X8_readsWord_X8 hown hK hw (by decide) (by decide) rfl rfl 14 (by decide) (hts (.fieldLink RX8 28 "WrongWordModel" "draft" "[I") ow_X8_readsWord_28) rfl dX8_readsWord_146 ?_
                refine lv_iload_n hx hb dX8_readsWord_149 rfl (lv_at hl 3 rfl) ?_
                refine lv_iconst (v := 1) hx hb dX8_readsWord_150 (by decide) ?_
                refine lv_iadd hx hb dX8_readsWord_151 ?_
                refine lv_iload_n hx hb dX8_readsWord_152 rfl (lv_at hl 1 rfl) ?_
                have hb102 : ¬ (((8 : Int32) + ((3 : Int32) * 0)) + 1 < 0 ∨ 65 ≤ Int32.toNatClampNeg (((8 : Int32) + ((3 : Int32) * 0)) + 1)) := fun q => hs (hF.trans (if_pos q))
                have hF := hF.trans (if_neg hb102)
                refine km_iast (t := 37) (i := 0) (n := 65) hx hb hK hw (by decide) (by decide) (fun _ => rfl) hb102 dX8_readsWord_153 (fun H locs hw => ?_)
                obtain ⟨v103, ev103⟩ : ∃ z, z = up3 v101 37 0 (Int32.toNatClampNeg (((8 : Int32) + ((3 : Int32) * 0)) + 1)) r10 := ⟨_, rfl⟩
                rw [← ev103] at hw
                have hF := hF.trans (kb_some (congrArg some ev103.symm) _)
                refine lv_aload_n hx hb dX8_readsWord_154 rfl (lv_at hl 4 rfl) ?_
                refine km_get (ci := 8) (C := RX8) (T := TX8) (N := 23) (t := 30) (i := 0) hx hb hts fi_X8_readsWord_X8 hown hK hw (by decide) (by decide) rfl rfl 14 (by decide) (hts (.fieldLink RX8 28 "WrongWordModel" "draft" "[I") ow_X8_readsWord_28) rfl dX8_readsWord_155 ?_
                refine lv_iload_n hx hb dX8_readsWord_158 rfl (lv_at hl 3 rfl) ?_
                refine lv_iconst (v := 2) hx hb dX8_readsWord_159 (by decide) ?_
                refine lv_iadd hx hb dX8_readsWord_160 ?_
                refine lv_iload hx hb dX8_readsWord_161 (lv_at hl 0 rfl) ?_
                have hb104 : ¬ (((8 : Int32) + ((3 : Int32) * 0)) + 2 < 0 ∨ 65 ≤ Int32.toNatClampNeg (((8 : Int32) + ((3 : Int32) * 0)) + 2)) := fun q => hs (hF.trans (if_pos q))
                have hF := hF.trans (if_neg hb104)
                refine km_iast (t := 37) (i := 0) (n := 65) hx hb hK hw (by decide) (by decide) (fun _ => rfl) hb104 dX8_readsWord_163 (fun H locs hw => ?_)
                obtain ⟨v105, ev105⟩ : ∃ z, z = up3 v103 37 0 (Int32.toNatClampNeg (((8 : Int32) + ((3 : Int32) * 0)) + 2)) (r90 - 97) := ⟨_, rfl⟩
                rw [← ev105] at hw
                have hF := hF.trans (kb_some (congrArg some ev105.symm) _)
                refine lv_aload_n hx hb dX8_readsWord_164 rfl (lv_at hl 4 rfl) ?_
                refine km_get (ci := 8) (C := RX8) (T := TX8) (N := 23) (t := 30) (i := 0) hx hb hts fi_X8_readsWord_X8 hown hK hw (by decide) (by decide) rfl rfl 14 (by decide) (hts (.fieldLink RX8 28 "WrongWordModel" "draft" "[I") ow_X8_readsWord_28) rfl dX8_readsWord_165 ?_
                refine lv_iconst (v := 3) hx hb dX8_readsWord_168 (by decide) ?_
                refine lv_dup2_11 hx hb dX8_readsWord_169 rfl rfl ?_
                refine km_iald (t := 37) (i := 0) hx hb hK hw (by decide) (by decide) rfl (by unfold vp_in; decide) dX8_readsWord_170 ?_
                refine lv_iconst (v := 1) hx hb dX8_readsWord_171 (by decide) ?_
                refine lv_iadd hx hb dX8_readsWord_172 ?_
                refine km_iast (t := 37) (i := 0) (n := 65) hx hb hK hw (by decide) (by decide) (fun _ => rfl) (by unfold vp_in; decide) dX8_readsWord_173 (fun H locs hw => ?_)
                obtain ⟨v106, ev106⟩ : ∃ z, z = up3 v105 37 0 (Int32.toNatClampNeg 3) ((v105 37 0 (Int32.toNatClampNeg 3)) + 1) := ⟨_, rfl⟩
                rw [← ev106] at hw
                have hF := hF.trans (kb_some (congrArg some ev106.symm) _)
                exact hret _ _ _ _ _ hw dX8_readsWord_174 hF
            · skip
              have hF := hF.trans (if_pos c92)
              refine lv_iconst (v := 1) hx hb dX8_readsWord_121 (by decide) ?_
              refine lv_goto (tgt := 126) hx hb dX8_readsWord_122 (by decide) ?_
              refine lv_iconst (v := 1) hx hb dX8_readsWord_126 (by decide) ?_
              have hs107 : g_X8_takes v91 1 1 ≠ none := fun q => hs (hF.trans (kb2_n q _))
              refine km_cI (As := [.int 1, .int 1]) (rest := []) (n := 2) (q := (RX8, TX8, 23)) (ci := 8) (t := 30) (i := 0) ⟨hx, hb, hml, hown, hts⟩ (d_X8_takes l E Z v91 1 1 hs107) gX8_readsWord_X8_takes rfl hV_X8_takes ⟨Nat.le_of_ble_eq_true rfl, Nat.le_of_ble_eq_true rfl⟩ hK hw (by decide) (by decide) rfl rfl rfl hl.1 rfl (Nat.le_of_ble_eq_true rfl) dX8_readsWord_127 rfl rfl (fun r108 v109 H locs hp hw => ?_)
              have hF := hF.trans (kb2_some hp _)
              refine lv_pop hx hb dX8_readsWord_130 rfl ?_
              refine lv_aload_n hx hb dX8_readsWord_131 rfl (lv_at hl 4 rfl) ?_
              have hs110 : g_X8_isWell v109 ≠ none := fun q => hs (hF.trans (kb_n q _))
              refine km_cI (As := []) (rest := []) (n := 0) (q := (RX8, TX8, 23)) (ci := 8) (t := 30) (i := 0) ⟨hx, hb, hml, hown, hts⟩ (d_X8_isWell l E Z v109  hs110) gX8_readsWord_X8_isWell rfl hV_X8_isWell ⟨Nat.le_of_ble_eq_true rfl, Nat.le_of_ble_eq_true rfl⟩ hK hw (by decide) (by decide) rfl rfl rfl hl.1 rfl (Nat.le_of_ble_eq_true rfl) dX8_readsWord_132 rfl rfl (fun r111 v112 H locs hp hw => ?_)
              obtain ⟨hp, hzr111⟩ := hp
              obtain ⟨hp, rfl⟩ := hp
              have hF := hF.trans (kb_some hp _)
              refine lv_if_eq (tgt := 174) hx hb dX8_readsWord_135 (by decide) (fun c113 => ?_) (fun c113 => ?_)
              · skip
                have hF := hF.trans (if_pos c113)
                exact hret _ _ _ _ _ hw dX8_readsWord_174 hF
              · skip
                have hF := hF.trans (if_neg c113)
                refine lv_aload_n hx hb dX8_readsWord_138 rfl (lv_at hl 4 rfl) ?_
                refine km_get (ci := 8) (C := RX8) (T := TX8) (N := 23) (t := 30) (i := 0) hx hb hts fi_X8_readsWord_X8 hown hK hw (by decide) (by decide) rfl rfl 14 (by decide) (hts (.fieldLink RX8 28 "WrongWordModel" "draft" "[I") ow_X8_readsWord_28) rfl dX8_readsWord_139 ?_
                refine lv_iload_n hx hb dX8_readsWord_142 rfl (lv_at hl 3 rfl) ?_
                refine lv_iload_n hx hb dX8_readsWord_143 rfl (lv_at hl 2 rfl) ?_
                have hb114 : ¬ ((8 : Int32) + ((3 : Int32) * 0) < 0 ∨ 65 ≤ Int32.toNatClampNeg ((8 : Int32) + ((3 : Int32) * 0))) := fun q => hs (hF.trans (if_pos q))
                have hF := hF.trans (if_neg hb114)
                refine km_iast (t := 37) (i := 0) (n := 65) hx hb hK hw (by decide) (by decide) (fun _ => rfl) hb114 dX8_readsWord_144 (fun H locs hw => ?_)
                obtain ⟨v115, ev115⟩ : ∃ z, z = up3 v109 37 0 (Int32.toNatClampNeg ((8 : Int32) + ((3 : Int32) * 0))) r7 := ⟨_, rfl⟩
                rw [← ev115] at hw
                have hF := hF.trans (kb_some (congrArg some ev115.symm) _)
                refine lv_aload_n hx hb dX8_readsWord_145 rfl (lv_at hl 4 rfl) ?_
                refine km_get (ci := 8) (C := RX8) (T := TX8) (N := 23) (t := 30) (i := 0) hx hb hts fi_X8_readsWord_X8 hown hK hw (by decide) (by decide) rfl rfl 14 (by decide) (hts (.fieldLink RX8 28 "WrongWordModel" "draft" "[I") ow_X8_readsWord_28) rfl dX8_readsWord_146 ?_
                refine lv_iload_n hx hb dX8_readsWord_149 rfl (lv_at hl 3 rfl) ?_
                refine lv_iconst (v := 1) hx hb dX8_readsWord_150 (by decide) ?_
                refine lv_iadd hx hb dX8_readsWord_151 ?_
                refine lv_iload_n hx hb dX8_readsWord_152 rfl (lv_at hl 1 rfl) ?_
                have hb116 : ¬ (((8 : Int32) + ((3 : Int32) * 0)) + 1 < 0 ∨ 65 ≤ Int32.toNatClampNeg (((8 : Int32) + ((3 : Int32) * 0)) + 1)) := fun q => hs (hF.trans (if_pos q))
                have hF := hF.trans (if_neg hb116)
                refine km_iast (t := 37) (i := 0) (n := 65) hx hb hK hw (by decide) (by decide) (fun _ => rfl) hb116 dX8_readsWord_153 (fun H locs hw => ?_)
                obtain ⟨v117, ev117⟩ : ∃ z, z = up3 v115 37 0 (Int32.toNatClampNeg (((8 : Int32) + ((3 : Int32) * 0)) + 1)) r10 := ⟨_, rfl⟩
                rw [← ev117] at hw
                have hF := hF.trans (kb_some (congrArg some ev117.symm) _)
                refine lv_aload_n hx hb dX8_readsWord_154 rfl (lv_at hl 4 rfl) ?_
                refine km_get (ci := 8) (C := RX8) (T := TX8) (N := 23) (t := 30) (i := 0) hx hb hts fi_X8_readsWord_X8 hown hK hw (by decide) (by decide) rfl rfl 14 (by decide) (hts (.fieldLink RX8 28 "WrongWordModel" "draft" "[I") ow_X8_readsWord_28) rfl dX8_readsWord_155 ?_
                refine lv_iload_n hx hb dX8_readsWord_158 rfl (lv_at hl 3 rfl) ?_
                refine lv_iconst (v := 2) hx hb dX8_readsWord_159 (by decide) ?_
                refine lv_iadd hx hb dX8_readsWord_160 ?_
                refine lv_iload hx hb dX8_readsWord_161 (lv_at hl 0 rfl) ?_
                have hb118 : ¬ (((8 : Int32) + ((3 : Int32) * 0)) + 2 < 0 ∨ 65 ≤ Int32.toNatClampNeg (((8 : Int32) + ((3 : Int32) * 0)) + 2)) := fun q => hs (hF.trans (if_pos q))
                have hF := hF.trans (if_neg hb118)
                refine km_iast (t := 37) (i := 0) (n := 65) hx hb hK hw (by decide) (by decide) (fun _ => rfl) hb118 dX8_readsWord_163 (fun H locs hw => ?_)
                obtain ⟨v119, ev119⟩ : ∃ z, z = up3 v117 37 0 (Int32.toNatClampNeg (((8 : Int32) + ((3 : Int32) * 0)) + 2)) (r90 - 97) := ⟨_, rfl⟩
                rw [← ev119] at hw
                have hF := hF.trans (kb_some (congrArg some ev119.symm) _)
                refine lv_aload_n hx hb dX8_readsWord_164 rfl (lv_at hl 4 rfl) ?_
                refine km_get (ci := 8) (C := RX8) (T := TX8) (N := 23) (t := 30) (i := 0) hx hb hts fi_X8_readsWord_X8 hown hK hw (by decide) (by decide) rfl rfl 14 (by decide) (hts (.fieldLink RX8 28 "WrongWordModel" "draft" "[I") ow_X8_readsWord_28) rfl dX8_readsWord_165 ?_
                refine lv_iconst (v := 3) hx hb dX8_readsWord_168 (by decide) ?_
                refine lv_dup2_11 hx hb dX8_readsWord_169 rfl rfl ?_
                refine km_iald (t := 37) (i := 0) hx hb hK hw (by decide) (by decide) rfl (by unfold vp_in; decide) dX8_readsWord_170 ?_
                refine lv_iconst (v := 1) hx hb dX8_readsWord_171 (by decide) ?_
                refine lv_iadd hx hb dX8_readsWord_172 ?_
                refine km_iast (t := 37) (i := 0) (n := 65) hx hb hK hw (by decide) (by decide) (fun _ => rfl) (by unfold vp_in; decide) dX8_readsWord_173 (fun H locs hw => ?_)
                obtain ⟨v120, ev120⟩ : ∃ z, z = up3 v119 37 0 (Int32.toNatClampNeg 3) ((v119 37 0 (Int32.toNatClampNeg 3)) + 1) := ⟨_, rfl⟩
                rw [← ev120] at hw
                have hF := hF.trans (kb_some (congrArg some ev120.symm) _)
                exact hret _ _ _ _ _ hw dX8_readsWord_174 hF
          · skip
            have hF := hF.trans (if_pos c88)
            refine lv_iconst (v := 1) hx hb dX8_readsWord_98 (by decide) ?_
            refine lv_goto (tgt := 103) hx hb dX8_readsWord_99 (by decide) ?_
            refine lv_iconst (v := 2) hx hb dX8_readsWord_103 (by decide) ?_
            have hs121 : g_X8_takes v11 1 2 ≠ none := fun q => hs (hF.trans (kb2_n q _))
            refine km_cI (As := [.int 1, .int 2]) (rest := []) (n := 2) (q := (RX8, TX8, 23)) (ci := 8) (t := 30) (i := 0) ⟨hx, hb, hml, hown, hts⟩ (d_X8_takes l E Z v11 1 2 hs121) gX8_readsWord_X8_takes rfl hV_X8_takes ⟨Nat.le_of_ble_eq_true rfl, Nat.le_of_ble_eq_true rfl⟩ hK hw (by decide) (by decide) rfl rfl rfl hl.1 rfl (Nat.le_of_ble_eq_true rfl) dX8_readsWord_104 rfl rfl (fun r122 v123 H locs hp hw => ?_)
            have hF := hF.trans (kb2_some hp _)
            refine lv_bipush (v := 97) hx hb dX8_readsWord_107 (by decide) ?_
            refine lv_isub hx hb dX8_readsWord_109 ?_
            refine lv_istore (lv' := [(4, .int (r122 - 97)), (3, .int r10), (2, .int r7), (1, .int ((8 : Int32) + ((3 : Int32) * 0))), (0, .ref (Z.1 30 0))]) hx hb dX8_readsWord_110 hl (by decide) rfl (fun ls hl => ?_)
            refine lv_aload_n hx hb dX8_readsWord_112 rfl (lv_at hl 4 rfl) ?_
            refine lv_aload_n hx hb dX8_readsWord_113 rfl (lv_at hl 4 rfl) ?_
            refine km_get (ci := 8) (C := RX8) (T := TX8) (N := 23) (t := 30) (i := 0) hx hb hts fi_X8_readsWord_X8 hown hK hw (by decide) (by decide) rfl rfl 11 (by decide) (hts (.fieldLink RX8 98 "WrongWordModel" "token" "I") ow_X8_readsWord_98) rfl dX8_readsWord_114 ?_
            refine lv_iconst (v := 4) hx hb dX8_readsWord_117 (by decide) ?_
            refine lv_icmp_ne (tgt := 125) hx hb dX8_readsWord_118 (by decide) (fun c124 => ?_) (fun c124 => ?_)
            · skip
              have hF := hF.trans (if_neg c124)
              refine lv_iconst (v := 0) hx hb dX8_readsWord_125 (by decide) ?_
              refine lv_iconst (v := 1) hx hb dX8_readsWord_126 (by decide) ?_
              have hs125 : g_X8_takes v123 0 1 ≠ none := fun q => hs (hF.trans (kb2_n q _))
              refine km_cI (As := [.int 0, .int 1]) (rest := []) (n := 2) (q := (RX8, TX8, 23)) (ci := 8) (t := 30) (i := 0) ⟨hx, hb, hml, hown, hts⟩ (d_X8_takes l E Z v123 0 1 hs125) gX8_readsWord_X8_takes rfl hV_X8_takes ⟨Nat.le_of_ble_eq_true rfl, Nat.le_of_ble_eq_true rfl⟩ hK hw (by decide) (by decide) rfl rfl rfl hl.1 rfl (Nat.le_of_ble_eq_true rfl) dX8_readsWord_127 rfl rfl (fun r126 v127 H locs hp hw => ?_)
              have hF := hF.trans (kb2_some hp _)
              refine lv_pop hx hb dX8_readsWord_130 rfl ?_
              refine lv_aload_n hx hb dX8_readsWord_131 rfl (lv_at hl 4 rfl) ?_
              have hs128 : g_X8_isWell v127 ≠ none := fun q => hs (hF.trans (kb_n q _))
              refine km_cI (As := []) (rest := []) (n := 0) (q := (RX8, TX8, 23)) (ci := 8) (t := 30) (i := 0) ⟨hx, hb, hml, hown, hts⟩ (d_X8_isWell l E Z v127  hs128) gX8_readsWord_X8_isWell rfl hV_X8_isWell ⟨Nat.le_of_ble_eq_true rfl, Nat.le_of_ble_eq_true rfl⟩ hK hw (by decide) (by decide) rfl rfl rfl hl.1 rfl (Nat.le_of_ble_eq_true rfl) dX8_readsWord_132 rfl rfl (fun r129 v130 H locs hp hw => ?_)
              obtain ⟨hp, hzr129⟩ := hp
              obtain ⟨hp, rfl⟩ := hp
              have hF := hF.trans (kb_some hp _)
              refine lv_if_eq (tgt := 174) hx hb dX8_readsWord_135 (by decide) (fun c131 => ?_) (fun c131 => ?_)
              · skip
                have hF := hF.trans (if_pos c131)
                exact hret _ _ _ _ _ hw dX8_readsWord_174 hF
              · skip
                have hF := hF.trans (if_neg c131)
                refine lv_aload_n hx hb dX8_readsWord_138 rfl (lv_at hl 4 rfl) ?_
                refine km_get (ci := 8) (C := RX8) (T := TX8) (N := 23) (t := 30) (i := 0) hx hb hts fi_X8_readsWord_X8 hown hK hw (by decide) (by decide) rfl rfl 14 (by decide) (hts (.fieldLink RX8 28 "WrongWordModel" "draft" "[I") ow_X8_readsWord_28) rfl dX8_readsWord_139 ?_
                refine lv_iload_n hx hb dX8_readsWord_142 rfl (lv_at hl 3 rfl) ?_
                refine lv_iload_n hx hb dX8_readsWord_143 rfl (lv_at hl 2 rfl) ?_
                have hb132 : ¬ ((8 : Int32) + ((3 : Int32) * 0) < 0 ∨ 65 ≤ Int32.toNatClampNeg ((8 : Int32) + ((3 : Int32) * 0))) := fun q => hs (hF.trans (if_pos q))
                have hF := hF.trans (if_neg hb132)
                refine km_iast (t := 37) (i := 0) (n := 65) hx hb hK hw (by decide) (by decide) (fun _ => rfl) hb132 dX8_readsWord_144 (fun H locs hw => ?_)
                obtain ⟨v133, ev133⟩ : ∃ z, z = up3 v127 37 0 (Int32.toNatClampNeg ((8 : Int32) + ((3 : Int32) * 0))) r7 := ⟨_, rfl⟩
                rw [← ev133] at hw
                have hF := hF.trans (kb_some (congrArg some ev133.symm) _)
                refine lv_aload_n hx hb dX8_readsWord_145 rfl (lv_at hl 4 rfl) ?_
                refine km_get (ci := 8) (C := RX8) (T := TX8) (N := 23) (t := 30) (i := 0) hx hb hts fi_X8_readsWord_X8 hown hK hw (by decide) (by decide) rfl rfl 14 (by decide) (hts (.fieldLink RX8 28 "WrongWordModel" "draft" "[I") ow_X8_readsWord_28) rfl dX8_readsWord_146 ?_
                refine lv_iload_n hx hb dX8_readsWord_149 rfl (lv_at hl 3 rfl) ?_
                refine lv_iconst (v := 1) hx hb dX8_readsWord_150 (by decide) ?_
                refine lv_iadd hx hb dX8_readsWord_151 ?_
                refine lv_iload_n hx hb dX8_readsWord_152 rfl (lv_at hl 1 rfl) ?_
                have hb134 : ¬ (((8 : Int32) + ((3 : Int32) * 0)) + 1 < 0 ∨ 65 ≤ Int32.toNatClampNeg (((8 : Int32) + ((3 : Int32) * 0)) + 1)) := fun q => hs (hF.trans (if_pos q))
                have hF := hF.trans (if_neg hb134)
                refine km_iast (t := 37) (i := 0) (n := 65) hx hb hK hw (by decide) (by decide) (fun _ => rfl) hb134 dX8_readsWord_153 (fun H locs hw => ?_)
                obtain ⟨v135, ev135⟩ : ∃ z, z = up3 v133 37 0 (Int32.toNatClampNeg (((8 : Int32) + ((3 : Int32) * 0)) + 1)) r10 := ⟨_, rfl⟩
                rw [← ev135] at hw
                have hF := hF.trans (kb_some (congrArg some ev135.symm) _)
                refine lv_aload_n hx hb dX8_readsWord_154 rfl (lv_at hl 4 rfl) ?_
                refine km_get (ci := 8) (C := RX8) (T := TX8) (N := 23) (t := 30) (i := 0) hx hb hts fi_X8_readsWord_X8 hown hK hw (by decide) (by decide) rfl rfl 14 (by decide) (hts (.fieldLink RX8 28 "WrongWordModel" "draft" "[I") ow_X8_readsWord_28) rfl dX8_readsWord_155 ?_
                refine lv_iload_n hx hb dX8_readsWord_158 rfl (lv_at hl 3 rfl) ?_
                refine lv_iconst (v := 2) hx hb dX8_readsWord_159 (by decide) ?_
                refine lv_iadd hx hb dX8_readsWord_160 ?_
                refine lv_iload hx hb dX8_readsWord_161 (lv_at hl 0 rfl) ?_
                have hb136 : ¬ (((8 : Int32) + ((3 : Int32) * 0)) + 2 < 0 ∨ 65 ≤ Int32.toNatClampNeg (((8 : Int32) + ((3 : Int32) * 0)) + 2)) := fun q => hs (hF.trans (if_pos q))
                have hF := hF.trans (if_neg hb136)
                refine km_iast (t := 37) (i := 0) (n := 65) hx hb hK hw (by decide) (by decide) (fun _ => rfl) hb136 dX8_readsWord_163 (fun H locs hw => ?_)
                obtain ⟨v137, ev137⟩ : ∃ z, z = up3 v135 37 0 (Int32.toNatClampNeg (((8 : Int32) + ((3 : Int32) * 0)) + 2)) (r122 - 97) := ⟨_, rfl⟩
                rw [← ev137] at hw
                have hF := hF.trans (kb_some (congrArg some ev137.symm) _)
                refine lv_aload_n hx hb dX8_readsWord_164 rfl (lv_at hl 4 rfl) ?_
                refine km_get (ci := 8) (C := RX8) (T := TX8) (N := 23) (t := 30) (i := 0) hx hb hts fi_X8_readsWord_X8 hown hK hw (by decide) (by decide) rfl rfl 14 (by decide) (hts (.fieldLink RX8 28 "WrongWordModel" "draft" "[I") ow_X8_readsWord_28) rfl dX8_readsWord_165 ?_
                refine lv_iconst (v := 3) hx hb dX8_readsWord_168 (by decide) ?_
                refine lv_dup2_11 hx hb dX8_readsWord_169 rfl rfl ?_
                refine km_iald (t := 37) (i := 0) hx hb hK hw (by decide) (by decide) rfl (by unfold vp_in; decide) dX8_readsWord_170 ?_
                refine lv_iconst (v := 1) hx hb dX8_readsWord_171 (by decide) ?_
                refine lv_iadd hx hb dX8_readsWord_172 ?_
                refine km_iast (t := 37) (i := 0) (n := 65) hx hb hK hw (by decide) (by decide) (fun _ => rfl) (by unfold vp_in; decide) dX8_readsWord_173 (fun H locs hw => ?_)
                obtain ⟨v138, ev138⟩ : ∃ z, z = up3 v137 37 0 (Int32.toNatClampNeg 3) ((v137 37 0 (Int32.toNatClampNeg 3)) + 1) := ⟨_, rfl⟩
                rw [← ev138] at hw
                have hF := hF.trans (kb_some (congrArg some ev138.symm) _)
                exact hret _ _ _ _ _ hw dX8_readsWord_174 hF
            · skip
              have hF := hF.trans (if_pos c124)
              refine lv_iconst (v := 1) hx hb dX8_readsWord_121 (by decide) ?_
              refine lv_goto (tgt := 126) hx hb dX8_readsWord_122 (by decide) ?_
              refine lv_iconst (v := 1) hx hb dX8_readsWord_126 (by decide) ?_
              have hs139 : g_X8_takes v123 1 1 ≠ none := fun q => hs (hF.trans (kb2_n q _))
              refine km_cI (As := [.int 1, .int 1]) (rest := []) (n := 2) (q := (RX8, TX8, 23)) (ci := 8) (t := 30) (i := 0) ⟨hx, hb, hml, hown, hts⟩ (d_X8_takes l E Z v123 1 1 hs139) gX8_readsWord_X8_takes rfl hV_X8_takes ⟨Nat.le_of_ble_eq_true rfl, Nat.le_of_ble_eq_true rfl⟩ hK hw (by decide) (by decide) rfl rfl rfl hl.1 rfl (Nat.le_of_ble_eq_true rfl) dX8_readsWord_127 rfl rfl (fun r140 v141 H locs hp hw => ?_)
              have hF := hF.trans (kb2_some hp _)
              refine lv_pop hx hb dX8_readsWord_130 rfl ?_
              refine lv_aload_n hx hb dX8_readsWord_131 rfl (lv_at hl 4 rfl) ?_
              have hs142 : g_X8_isWell v141 ≠ none := fun q => hs (hF.trans (kb_n q _))
              refine km_cI (As := []) (rest := []) (n := 0) (q := (RX8, TX8, 23)) (ci := 8) (t := 30) (i := 0) ⟨hx, hb, hml, hown, hts⟩ (d_X8_isWell l E Z v141  hs142) gX8_readsWord_X8_isWell rfl hV_X8_isWell ⟨Nat.le_of_ble_eq_true rfl, Nat.le_of_ble_eq_true rfl⟩ hK hw (by decide) (by decide) rfl rfl rfl hl.1 rfl (Nat.le_of_ble_eq_true rfl) dX8_readsWord_132 rfl rfl (fun r143 v144 H locs hp hw => ?_)
              obtain ⟨hp, hzr143⟩ := hp
              obtain ⟨hp, rfl⟩ := hp
              have hF := hF.trans (kb_some hp _)
              refine lv_if_eq (tgt := 174) hx hb dX8_readsWord_135 (by decide) (fun c145 => ?_) (fun c145 => ?_)
              · skip
                have hF := hF.trans (if_pos c145)
                exact hret _ _ _ _ _ hw dX8_readsWord_174 hF
              · skip
                have hF := hF.trans (if_neg c145)
                refine lv_aload_n hx hb dX8_readsWord_138 rfl (lv_at hl 4 rfl) ?_
                refine km_get (ci := 8) (C := RX8) (T := TX8) (N := 23) (t := 30) (i := 0) hx hb hts fi_X8_readsWord_X8 hown hK hw (by decide) (by decide) rfl rfl 14 (by decide) (hts (.fieldLink RX8 28 "WrongWordModel" "draft" "[I") ow_X8_readsWord_28) rfl dX8_readsWord_139 ?_
                refine lv_iload_n hx hb dX8_readsWord_142 rfl (lv_at hl 3 rfl) ?_
                refine lv_iload_n hx hb dX8_readsWord_143 rfl (lv_at hl 2 rfl) ?_
                have hb146 : ¬ ((8 : Int32) + ((3 : Int32) * 0) < 0 ∨ 65 ≤ Int32.toNatClampNeg ((8 : Int32) + ((3 : Int32) * 0))) := fun q => hs (hF.trans (if_pos q))
                have hF := hF.trans (if_neg hb146)
                refine km_iast (t := 37) (i := 0) (n := 65) hx hb hK hw (by decide) (by decide) (fun _ => rfl) hb146 dX8_readsWord_144 (fun H locs hw => ?_)
                obtain ⟨v147, ev147⟩ : ∃ z, z = up3 v141 37 0 (Int32.toNatClampNeg ((8 : Int32) + ((3 : Int32) * 0))) r7 := ⟨_, rfl⟩
                rw [← ev147] at hw
                have hF := hF.trans (kb_some (congrArg some ev147.symm) _)
                refine lv_aload_n hx hb dX8_readsWord_145 rfl (lv_at hl 4 rfl) ?_
                refine km_get (ci := 8) (C := RX8) (T := TX8) (N := 23) (t := 30) (i := 0) hx hb hts fi_X8_readsWord_X8 hown hK hw (by decide) (by decide) rfl rfl 14 (by decide) (hts (.fieldLink RX8 28 "WrongWordModel" "draft" "[I") ow_X8_readsWord_28) rfl dX8_readsWord_146 ?_
                refine lv_iload_n hx hb dX8_readsWord_149 rfl (lv_at hl 3 rfl) ?_
                refine lv_iconst (v := 1) hx hb dX8_readsWord_150 (by decide) ?_
                refine lv_iadd hx hb dX8_readsWord_151 ?_
                refine lv_iload_n hx hb dX8_readsWord_152 rfl (lv_at hl 1 rfl) ?_
                have hb148 : ¬ (((8 : Int32) + ((3 : Int32) * 0)) + 1 < 0 ∨ 65 ≤ Int32.toNatClampNeg (((8 : Int32) + ((3 : Int32) * 0)) + 1)) := fun q => hs (hF.trans (if_pos q))
                have hF := hF.trans (if_neg hb148)
                refine km_iast (t := 37) (i := 0) (n := 65) hx hb hK hw (by decide) (by decide) (fun _ => rfl) hb148 dX8_readsWord_153 (fun H locs hw => ?_)
                obtain ⟨v149, ev149⟩ : ∃ z, z = up3 v147 37 0 (Int32.toNatClampNeg (((8 : Int32) + ((3 : Int32) * 0)) + 1)) r10 := ⟨_, rfl⟩
                rw [← ev149] at hw
                have hF := hF.trans (kb_some (congrArg some ev149.symm) _)
                refine lv_aload_n hx hb dX8_readsWord_154 rfl (lv_at hl 4 rfl) ?_
                refine km_get (ci := 8) (C := RX8) (T := TX8) (N := 23) (t := 30) (i := 0) hx hb hts fi_X8_readsWord_X8 hown hK hw (by decide) (by decide) rfl rfl 14 (by decide) (hts (.fieldLink RX8 28 "WrongWordModel" "draft" "[I") ow_X8_readsWord_28) rfl dX8_readsWord_155 ?_
                refine lv_iload_n hx hb dX8_readsWord_158 rfl (lv_at hl 3 rfl) ?_
                refine lv_iconst (v := 2) hx hb dX8_readsWord_159 (by decide) ?_
                refine lv_iadd hx hb dX8_readsWord_160 ?_
                refine lv_iload hx hb dX8_readsWord_161 (lv_at hl 0 rfl) ?_
                have hb150 : ¬ (((8 : Int32) + ((3 : Int32) * 0)) + 2 < 0 ∨ 65 ≤ Int32.toNatClampNeg (((8 : Int32) + ((3 : Int32) * 0)) + 2)) := fun q => hs (hF.trans (if_pos q))
                have hF := hF.trans (if_neg hb150)
                refine km_iast (t := 37) (i := 0) (n := 65) hx hb hK hw (by decide) (by decide) (fun _ => rfl) hb150 dX8_readsWord_163 (fun H locs hw => ?_)
                obtain ⟨v151, ev151⟩ : ∃ z, z = up3 v149 37 0 (Int32.toNatClampNeg (((8 : Int32) + ((3 : Int32) * 0)) + 2)) (r122 - 97) := ⟨_, rfl⟩
                rw [← ev151] at hw
                have hF := hF.trans (kb_some (congrArg some ev151.symm) _)
                refine lv_aload_n hx hb dX8_readsWord_164 rfl (lv_at hl 4 rfl) ?_
                refine km_get (ci := 8) (C := RX8) (T := TX8) (N := 23) (t := 30) (i := 0) hx hb hts fi_X8_readsWord_X8 hown hK hw (by decide) (by decide) rfl rfl 14 (by decide) (hts (.fieldLink RX8 28 "WrongWordModel" "draft" "[I") ow_X8_readsWord_28) rfl dX8_readsWord_165 ?_
                refine lv_iconst (v := 3) hx hb dX8_readsWord_168 (by decide) ?_
                refine lv_dup2_11 hx hb dX8_readsWord_169 rfl rfl ?_
                refine km_iald (t := 37) (i := 0) hx hb hK hw (by decide) (by decide) rfl (by unfold vp_in; decide) dX8_readsWord_170 ?_
                refine lv_iconst (v := 1) hx hb dX8_readsWord_171 (by decide) ?_
                refine lv_iadd hx hb dX8_readsWord_172 ?_
                refine km_iast (t := 37) (i := 0) (n := 65) hx hb hK hw (by decide) (by decide) (fun _ => rfl) (by unfold vp_in; decide) dX8_readsWord_173 (fun H locs hw => ?_)
                obtain ⟨v152, ev152⟩ : ∃ z, z = up3 v151 37 0 (Int32.toNatClampNeg 3) ((v151 37 0 (Int32.toNatClampNeg 3)) + 1) := ⟨_, rfl⟩
                rw [← ev152] at hw
                have hF := hF.trans (kb_some (congrArg some ev152.symm) _)
                exact hret _ _ _ _ _ hw dX8_readsWord_174 hF
        · skip
          have hF := hF.trans (if_neg c84)
          refine lv_aload_n hx hb dX8_readsWord_74 rfl (lv_at hl 3 rfl) ?_
          refine lv_iconst (v := 0) hx hb dX8_readsWord_75 (by decide) ?_
          refine lv_iconst (v := 1) hx hb dX8_readsWord_76 (by decide) ?_
          have hs153 : g_X8_takes v11 0 1 ≠ none := fun q => hs (hF.trans (kb2_n q _))
          refine km_cI (As := [.int 0, .int 1]) (rest := []) (n := 2) (q := (RX8, TX8, 23)) (ci := 8) (t := 30) (i := 0) ⟨hx, hb, hml, hown, hts⟩ (d_X8_takes l E Z v11 0 1 hs153) gX8_readsWord_X8_takes rfl hV_X8_takes ⟨Nat.le_of_ble_eq_true rfl, Nat.le_of_ble_eq_true rfl⟩ hK hw (by decide) (by decide) rfl rfl rfl hl.1 rfl (Nat.le_of_ble_eq_true rfl) dX8_readsWord_77 rfl rfl (fun r154 v155 H locs hp hw => ?_)
          have hF := hF.trans (kb2_some hp _)
          refine lv_pop hx hb dX8_readsWord_80 rfl ?_
          refine lv_aload_n hx hb dX8_readsWord_81 rfl (lv_at hl 3 rfl) ?_
          refine lv_aload_n hx hb dX8_readsWord_82 rfl (lv_at hl 3 rfl) ?_
          refine lv_iload_n hx hb dX8_readsWord_83 rfl (lv_at hl 1 rfl) ?_
          refine lv_iload_n hx hb dX8_readsWord_84 rfl (lv_at hl 0 rfl) ?_
          refine lv_aload_n hx hb dX8_readsWord_85 rfl (lv_at hl 3 rfl) ?_
          refine km_get (ci := 8) (C := RX8) (T := TX8) (N := 23) (t := 30) (i := 0) hx hb hts fi_X8_readsWord_X8 hown hK hw (by decide) (by decide) rfl rfl 12 (by decide) (hts (.fieldLink RX8 95 "WrongWordModel" "value" "I") ow_X8_readsWord_95) rfl dX8_readsWord_86 ?_
          refine lv_bipush (v := 97) hx hb dX8_readsWord_89 (by decide) ?_
          refine lv_isub hx hb dX8_readsWord_91 ?_
          have hs156 : g_X8_isTold v155 r7 r10 ((v155 30 0 12) - 97) ≠ none := fun q => hs (hF.trans (kb_n q _))
          refine km_cI (As := [.int r7, .int r10, .int ((v155 30 0 12) - 97)]) (rest := [.ref (Z.1 30 0)]) (n := 3) (q := (RX8, TX8, 23)) (ci := 8) (t := 30) (i := 0) ⟨hx, hb, hml, hown, hts⟩ (d_X8_isTold l E Z v155 r7 r10 ((v155 30 0 12) - 97) hs156) gX8_readsWord_X8_isTold rfl hV_X8_isTold ⟨Nat.le_of_ble_eq_true rfl, Nat.le_of_ble_eq_true rfl⟩ hK hw (by decide) (by decide) rfl rfl rfl hl.1 rfl (Nat.le_of_ble_eq_true rfl) dX8_readsWord_92 rfl rfl (fun r157 v158 H locs hp hw => ?_)
          obtain ⟨hp, hzr157⟩ := hp
          obtain ⟨hp, rfl⟩ := hp
          have hF := hF.trans (kb_some hp _)
          refine lv_if_ne (tgt := 102) hx hb dX8_readsWord_95 (by decide) (fun c159 => ?_) (fun c159 => ?_)
          · skip
            have hF := hF.trans (if_neg c159)
            refine lv_iconst (v := 0) hx hb dX8_readsWord_102 (by decide) ?_
            refine lv_iconst (v := 2) hx hb dX8_readsWord_103 (by decide) ?_
            have hs160 : g_X8_takes v155 0 2 ≠ none := fun q => hs (hF.trans (kb2_n q _))
            refine km_cI (As := [.int 0, .int 2]) (rest := []) (n := 2) (q := (RX8, TX8, 23)) (ci := 8) (t := 30) (i := 0) ⟨hx, hb, hml, hown, hts⟩ (d_X8_takes l E Z v155 0 2 hs160) gX8_readsWord_X8_takes rfl hV_X8_takes ⟨Nat.le_of_ble_eq_true rfl, Nat.le_of_ble_eq_true rfl⟩ hK hw (by decide) (by decide) rfl rfl rfl hl.1 rfl (Nat.le_of_ble_eq_true rfl) dX8_readsWord_104 rfl rfl (fun r161 v162 H locs hp hw => ?_)
            have hF := hF.trans (kb2_some hp _)
            refine lv_bipush (v := 97) hx hb dX8_readsWord_107 (by decide) ?_
            refine lv_isub hx hb dX8_readsWord_109 ?_
            refine lv_istore (lv' := [(4, .int (r161 - 97)), (3, .int r10), (2, .int r7), (1, .int ((8 : Int32) + ((3 : Int32) * 0))), (0, .ref (Z.1 30 0))]) hx hb dX8_readsWord_110 hl (by decide) rfl (fun ls hl => ?_)
            refine lv_aload_n hx hb dX8_readsWord_112 rfl (lv_at hl 4 rfl) ?_
            refine lv_aload_n hx hb dX8_readsWord_113 rfl (lv_at hl 4 rfl) ?_
            refine km_get (ci := 8) (C := RX8) (T := TX8) (N := 23) (t := 30) (i := 0) hx hb hts fi_X8_readsWord_X8 hown hK hw (by decide) (by decide) rfl rfl 11 (by decide) (hts (.fieldLink RX8 98 "WrongWordModel" "token" "I") ow_X8_readsWord_98) rfl dX8_readsWord_114 ?_
            refine lv_iconst (v := 4) hx hb dX8_readsWord_117 (by decide) ?_
            refine lv_icmp_ne (tgt := 125) hx hb dX8_readsWord_118 (by decide) (fun c163 => ?_) (fun c163 => ?_)
            · skip
              have hF := hF.trans (if_neg c163)
              refine lv_iconst (v := 0) hx hb dX8_readsWord_125 (by decide) ?_
              refine lv_iconst (v := 1) hx hb dX8_readsWord_126 (by decide) ?_
              have hs164 : g_X8_takes v162 0 1 ≠ none := fun q => hs (hF.trans (kb2_n q _))
              refine km_cI (As := [.int 0, .int 1]) (rest := []) (n := 2) (q := (RX8, TX8, 23)) (ci := 8) (t := 30) (i := 0) ⟨hx, hb, hml, hown, hts⟩ (d_X8_takes l E Z v162 0 1 hs164) gX8_readsWord_X8_takes rfl hV_X8_takes ⟨Nat.le_of_ble_eq_true rfl, Nat.le_of_ble_eq_true rfl⟩ hK hw (by decide) (by decide) rfl rfl rfl hl.1 rfl (Nat.le_of_ble_eq_true rfl) dX8_readsWord_127 rfl rfl (fun r165 v166 H locs hp hw => ?_)
              have hF := hF.trans (kb2_some hp _)
              refine lv_pop hx hb dX8_readsWord_130 rfl ?_
              refine lv_aload_n hx hb dX8_readsWord_131 rfl (lv_at hl 4 rfl) ?_
              have hs167 : g_X8_isWell v166 ≠ none := fun q => hs (hF.trans (kb_n q _))
              refine km_cI (As := []) (rest := []) (n := 0) (q := (RX8, TX8, 23)) (ci := 8) (t := 30) (i := 0) ⟨hx, hb, hml, hown, hts⟩ (d_X8_isWell l E Z v166  hs167) gX8_readsWord_X8_isWell rfl hV_X8_isWell ⟨Nat.le_of_ble_eq_true rfl, Nat.le_of_ble_eq_true rfl⟩ hK hw (by decide) (by decide) rfl rfl rfl hl.1 rfl (Nat.le_of_ble_eq_true rfl) dX8_readsWord_132 rfl rfl (fun r168 v169 H locs hp hw => ?_)
              obtain ⟨hp, hzr168⟩ := hp
              obtain ⟨hp, rfl⟩ := hp
              have hF := hF.trans (kb_some hp _)
              refine lv_if_eq (tgt := 174) hx hb dX8_readsWord_135 (by decide) (fun c170 => ?_) (fun c170 => ?_)
              · skip
                have hF := hF.trans (if_pos c170)
                exact hret _ _ _ _ _ hw dX8_readsWord_174 hF
              · skip
                have hF := hF.trans (if_neg c170)
                refine lv_aload_n hx hb dX8_readsWord_138 rfl (lv_at hl 4 rfl) ?_
                refine km_get (ci := 8) (C := RX8) (T := TX8) (N := 23) (t := 30) (i := 0) hx hb hts fi_X8_readsWord_X8 hown hK hw (by decide) (by decide) rfl rfl 14 (by decide) (hts (.fieldLink RX8 28 "WrongWordModel" "draft" "[I") ow_X8_readsWord_28) rfl dX8_readsWord_139 ?_
                refine lv_iload_n hx hb dX8_readsWord_142 rfl (lv_at hl 3 rfl) ?_
                refine lv_iload_n hx hb dX8_readsWord_143 rfl (lv_at hl 2 rfl) ?_
                have hb171 : ¬ ((8 : Int32) + ((3 : Int32) * 0) < 0 ∨ 65 ≤ Int32.toNatClampNeg ((8 : Int32) + ((3 : Int32) * 0))) := fun q => hs (hF.trans (if_pos q))
                have hF := hF.trans (if_neg hb171)
                refine km_iast (t := 37) (i := 0) (n := 65) hx hb hK hw (by decide) (by decide) (fun _ => rfl) hb171 dX8_readsWord_144 (fun H locs hw => ?_)
                obtain ⟨v172, ev172⟩ : ∃ z, z = up3 v166 37 0 (Int32.toNatClampNeg ((8 : Int32) + ((3 : Int32) * 0))) r7 := ⟨_, rfl⟩
                rw [← ev172] at hw
                have hF := hF.trans (kb_some (congrArg some ev172.symm) _)
                refine lv_aload_n hx hb dX8_readsWord_145 rfl (lv_at hl 4 rfl) ?_
                refine km_get (ci := 8) (C := RX8) (T := TX8) (N := 23) (t := 30) (i := 0) hx hb hts fi_X8_readsWord_X8 hown hK hw (by decide) (by decide) rfl rfl 14 (by decide) (hts (.fieldLink RX8 28 "WrongWordModel" "draft" "[I") ow_X8_readsWord_28) rfl dX8_readsWord_146 ?_
                refine lv_iload_n hx hb dX8_readsWord_149 rfl (lv_at hl 3 rfl) ?_
                refine lv_iconst (v := 1) hx hb dX8_readsWord_150 (by decide) ?_
                refine lv_iadd hx hb dX8_readsWord_151 ?_
                refine lv_iload_n hx hb dX8_readsWord_152 rfl (lv_at hl 1 rfl) ?_
                have hb173 : ¬ (((8 : Int32) + ((3 : Int32) * 0)) + 1 < 0 ∨ 65 ≤ Int32.toNatClampNeg (((8 : Int32) + ((3 : Int32) * 0)) + 1)) := fun q => hs (hF.trans (if_pos q))
                have hF := hF.trans (if_neg hb173)
                refine km_iast (t := 37) (i := 0) (n := 65) hx hb hK hw (by decide) (by decide) (fun _ => rfl) hb173 dX8_readsWord_153 (fun H locs hw => ?_)
                obtain ⟨v174, ev174⟩ : ∃ z, z = up3 v172 37 0 (Int32.toNatClampNeg (((8 : Int32) + ((3 : Int32) * 0)) + 1)) r10 := ⟨_, rfl⟩
                rw [← ev174] at hw
                have hF := hF.trans (kb_some (congrArg some ev174.symm) _)
                refine lv_aload_n hx hb dX8_readsWord_154 rfl (lv_at hl 4 rfl) ?_
                refine km_get (ci := 8) (C := RX8) (T := TX8) (N := 23) (t := 30) (i := 0) hx hb hts fi_X8_readsWord_X8 hown hK hw (by decide) (by decide) rfl rfl 14 (by decide) (hts (.fieldLink RX8 28 "WrongWordModel" "draft" "[I") ow_X8_readsWord_28) rfl dX8_readsWord_155 ?_
                refine lv_iload_n hx hb dX8_readsWord_158 rfl (lv_at hl 3 rfl) ?_
                refine lv_iconst (v := 2) hx hb dX8_readsWord_159 (by decide) ?_
                refine lv_iadd hx hb dX8_readsWord_160 ?_
                refine lv_iload hx hb dX8_readsWord_161 (lv_at hl 0 rfl) ?_
                have hb175 : ¬ (((8 : Int32) + ((3 : Int32) * 0)) + 2 < 0 ∨ 65 ≤ Int32.toNatClampNeg (((8 : Int32) + ((3 : Int32) * 0)) + 2)) := fun q => hs (hF.trans (if_pos q))
                have hF := hF.trans (if_neg hb175)
                refine km_iast (t := 37) (i := 0) (n := 65) hx hb hK hw (by decide) (by decide) (fun _ => rfl) hb175 dX8_readsWord_163 (fun H locs hw => ?_)
                obtain ⟨v176, ev176⟩ : ∃ z, z = up3 v174 37 0 (Int32.toNatClampNeg (((8 : Int32) + ((3 : Int32) * 0)) + 2)) (r161 - 97) := ⟨_, rfl⟩
                rw [← ev176] at hw
                have hF := hF.trans (kb_some (congrArg some ev176.symm) _)
                refine lv_aload_n hx hb dX8_readsWord_164 rfl (lv_at hl 4 rfl) ?_
                refine km_get (ci := 8) (C := RX8) (T := TX8) (N := 23) (t := 30) (i := 0) hx hb hts fi_X8_readsWord_X8 hown hK hw (by decide) (by decide) rfl rfl 14 (by decide) (hts (.fieldLink RX8 28 "WrongWordModel" "draft" "[I") ow_X8_readsWord_28) rfl dX8_readsWord_165 ?_
                refine lv_iconst (v := 3) hx hb dX8_readsWord_168 (by decide) ?_
                refine lv_dup2_11 hx hb dX8_readsWord_169 rfl rfl ?_
                refine km_iald (t := 37) (i := 0) hx hb hK hw (by decide) (by decide) rfl (by unfold vp_in; decide) dX8_readsWord_170 ?_
                refine lv_iconst (v := 1) hx hb dX8_readsWord_171 (by decide) ?_
                refine lv_iadd hx hb dX8_readsWord_172 ?_
                refine km_iast (t := 37) (i := 0) (n := 65) hx hb hK hw (by decide) (by decide) (fun _ => rfl) (by unfold vp_in; decide) dX8_readsWord_173 (fun H locs hw => ?_)
                obtain ⟨v177, ev177⟩ : ∃ z, z = up3 v176 37 0 (Int32.toNatClampNeg 3) ((v176 37 0 (Int32.toNatClampNeg 3)) + 1) := ⟨_, rfl⟩
                rw [← ev177] at hw
                have hF := hF.trans (kb_some (congrArg some ev177.symm) _)
                exact hret _ _ _ _ _ hw dX8_readsWord_174 hF
            · skip
              have hF := hF.trans (if_pos c163)
              refine lv_iconst (v := 1) hx hb dX8_readsWord_121 (by decide) ?_
              refine lv_goto (tgt := 126) hx hb dX8_readsWord_122 (by decide) ?_
              refine lv_iconst (v := 1) hx hb dX8_readsWord_126 (by decide) ?_
              have hs178 : g_X8_takes v162 1 1 ≠ none := fun q => hs (hF.trans (kb2_n q _))
              refine km_cI (As := [.int 1, .int 1]) (rest := []) (n := 2) (q := (RX8, TX8, 23)) (ci := 8) (t := 30) (i := 0) ⟨hx, hb, hml, hown, hts⟩ (d_X8_takes l E Z v162 1 1 hs178) gX8_readsWord_X8_takes rfl hV_X8_takes ⟨Nat.le_of_ble_eq_true rfl, Nat.le_of_ble_eq_true rfl⟩ hK hw (by decide) (by decide) rfl rfl rfl hl.1 rfl (Nat.le_of_ble_eq_true rfl) dX8_readsWord_127 rfl rfl (fun r179 v180 H locs hp hw => ?_)
              have hF := hF.trans (kb2_some hp _)
              refine lv_pop hx hb dX8_readsWord_130 rfl ?_
              refine lv_aload_n hx hb dX8_readsWord_131 rfl (lv_at hl 4 rfl) ?_
              have hs181 : g_X8_isWell v180 ≠ none := fun q => hs (hF.trans (kb_n q _))
              refine km_cI (As := []) (rest := []) (n := 0) (q := (RX8, TX8, 23)) (ci := 8) (t := 30) (i := 0) ⟨hx, hb, hml, hown, hts⟩ (d_X8_isWell l E Z v180  hs181) gX8_readsWord_X8_isWell rfl hV_X8_isWell ⟨Nat.le_of_ble_eq_true rfl, Nat.le_of_ble_eq_true rfl⟩ hK hw (by decide) (by decide) rfl rfl rfl hl.1 rfl (Nat.le_of_ble_eq_true rfl) dX8_readsWord_132 rfl rfl (fun r182 v183 H locs hp hw => ?_)
              obtain ⟨hp, hzr182⟩ := hp
              obtain ⟨hp, rfl⟩ := hp
              have hF := hF.trans (kb_some hp _)
              refine lv_if_eq (tgt := 174) hx hb dX8_readsWord_135 (by decide) (fun c184 => ?_) (fun c184 => ?_)
              · skip
                have hF := hF.trans (if_pos c184)
                exact hret _ _ _ _ _ hw dX8_readsWord_174 hF
              · skip
                have hF := hF.trans (if_neg c184)
                refine lv_aload_n hx hb dX8_readsWord_138 rfl (lv_at hl 4 rfl) ?_
                refine km_get (ci := 8) (C := RX8) (T := TX8) (N := 23) (t := 30) (i := 0) hx hb hts fi_X8_readsWord_X8 hown hK hw (by decide) (by decide) rfl rfl 14 (by decide) (hts (.fieldLink RX8 28 "WrongWordModel" "draft" "[I") ow_X8_readsWord_28) rfl dX8_readsWord_139 ?_
                refine lv_iload_n hx hb dX8_readsWord_142 rfl (lv_at hl 3 rfl) ?_
                refine lv_iload_n hx hb dX8_readsWord_143 rfl (lv_at hl 2 rfl) ?_
                have hb185 : ¬ ((8 : Int32) + ((3 : Int32) * 0) < 0 ∨ 65 ≤ Int32.toNatClampNeg ((8 : Int32) + ((3 : Int32) * 0))) := fun q => hs (hF.trans (if_pos q))
                have hF := hF.trans (if_neg hb185)
                refine km_iast (t := 37) (i := 0) (n := 65) hx hb hK hw (by decide) (by decide) (fun _ => rfl) hb185 dX8_readsWord_144 (fun H locs hw => ?_)
                obtain ⟨v186, ev186⟩ : ∃ z, z = up3 v180 37 0 (Int32.toNatClampNeg ((8 : Int32) + ((3 : Int32) * 0))) r7 := ⟨_, rfl⟩
                rw [← ev186] at hw
                have hF := hF.trans (kb_some (congrArg some ev186.symm) _)
                refine lv_aload_n hx hb dX8_readsWord_145 rfl (lv_at hl 4 rfl) ?_
                refine km_get (ci := 8) (C := RX8) (T := TX8) (N := 23) (t := 30) (i := 0) hx hb hts fi_X8_readsWord_X8 hown hK hw (by decide) (by decide) rfl rfl 14 (by decide) (hts (.fieldLink RX8 28 "WrongWordModel" "draft" "[I") ow_X8_readsWord_28) rfl dX8_readsWord_146 ?_
                refine lv_iload_n hx hb dX8_readsWord_149 rfl (lv_at hl 3 rfl) ?_
                refine lv_iconst (v := 1) hx hb dX8_readsWord_150 (by decide) ?_
                refine lv_iadd hx hb dX8_readsWord_151 ?_
                refine lv_iload_n hx hb dX8_readsWord_152 rfl (lv_at hl 1 rfl) ?_
                have hb187 : ¬ (((8 : Int32) + ((3 : Int32) * 0)) + 1 < 0 ∨ 65 ≤ Int32.toNatClampNeg (((8 : Int32) + ((3 : Int32) * 0)) + 1)) := fun q => hs (hF.trans (if_pos q))
                have hF := hF.trans (if_neg hb187)
                refine km_iast (t := 37) (i := 0) (n := 65) hx hb hK hw (by decide) (by decide) (fun _ => rfl) hb187 dX8_readsWord_153 (fun H locs hw => ?_)
                obtain ⟨v188, ev188⟩ : ∃ z, z = up3 v186 37 0 (Int32.toNatClampNeg (((8 : Int32) + ((3 : Int32) * 0)) + 1)) r10 := ⟨_, rfl⟩
                rw [← ev188] at hw
                have hF := hF.trans (kb_some (congrArg some ev188.symm) _)
                refine lv_aload_n hx hb dX8_readsWord_154 rfl (lv_at hl 4 rfl) ?_
                refine km_get (ci := 8) (C := RX8) (T := TX8) (N := 23) (t := 30) (i := 0) hx hb hts fi_X8_readsWord_X8 hown hK hw (by decide) (by decide) rfl rfl 14 (by decide) (hts (.fieldLink RX8 28 "WrongWordModel" "draft" "[I") ow_X8_readsWord_28) rfl dX8_readsWord_155 ?_
                refine lv_iload_n hx hb dX8_readsWord_158 rfl (lv_at hl 3 rfl) ?_
                refine lv_iconst (v := 2) hx hb dX8_readsWord_159 (by decide) ?_
                refine lv_iadd hx hb dX8_readsWord_160 ?_
                refine lv_iload hx hb dX8_readsWord_161 (lv_at hl 0 rfl) ?_
                have hb189 : ¬ (((8 : Int32) + ((3 : Int32) * 0)) + 2 < 0 ∨ 65 ≤ Int32.toNatClampNeg (((8 : Int32) + ((3 : Int32) * 0)) + 2)) := fun q => hs (hF.trans (if_pos q))
                have hF := hF.trans (if_neg hb189)
                refine km_iast (t := 37) (i := 0) (n := 65) hx hb hK hw (by decide) (by decide) (fun _ => rfl) hb189 dX8_readsWord_163 (fun H locs hw => ?_)
                obtain ⟨v190, ev190⟩ : ∃ z, z = up3 v188 37 0 (Int32.toNatClampNeg (((8 : Int32) + ((3 : Int32) * 0)) + 2)) (r161 - 97) := ⟨_, rfl⟩
                rw [← ev190] at hw
                have hF := hF.trans (kb_some (congrArg some ev190.symm) _)
                refine lv_aload_n hx hb dX8_readsWord_164 rfl (lv_at hl 4 rfl) ?_
                refine km_get (ci := 8) (C := RX8) (T := TX8) (N := 23) (t := 30) (i := 0) hx hb hts fi_X8_readsWord_X8 hown hK hw (by decide) (by decide) rfl rfl 14 (by decide) (hts (.fieldLink RX8 28 "WrongWordModel" "draft" "[I") ow_X8_readsWord_28) rfl dX8_readsWord_165 ?_
                refine lv_iconst (v := 3) hx hb dX8_readsWord_168 (by decide) ?_
                refine lv_dup2_11 hx hb dX8_readsWord_169 rfl rfl ?_
                refine km_iald (t := 37) (i := 0) hx hb hK hw (by decide) (by decide) rfl (by unfold vp_in; decide) dX8_readsWord_170 ?_
                refine lv_iconst (v := 1) hx hb dX8_readsWord_171 (by decide) ?_
                refine lv_iadd hx hb dX8_readsWord_172 ?_
                refine km_iast (t := 37) (i := 0) (n := 65) hx hb hK hw (by decide) (by decide) (fun _ => rfl) (by unfold vp_in; decide) dX8_readsWord_173 (fun H locs hw => ?_)
                obtain ⟨v191, ev191⟩ : ∃ z, z = up3 v190 37 0 (Int32.toNatClampNeg 3) ((v190 37 0 (Int32.toNatClampNeg 3)) + 1) := ⟨_, rfl⟩
                rw [← ev191] at hw
                have hF := hF.trans (kb_some (congrArg some ev191.symm) _)
                exact hret _ _ _ _ _ hw dX8_readsWord_174 hF
          · skip
            have hF := hF.trans (if_pos c159)
            refine lv_iconst (v := 1) hx hb dX8_readsWord_98 (by decide) ?_
            refine lv_goto (tgt := 103) hx hb dX8_readsWord_99 (by decide) ?_
            refine lv_iconst (v := 2) hx hb dX8_readsWord_103 (by decide) ?_
            have hs192 : g_X8_takes v155 1 2 ≠ none := fun q => hs (hF.trans (kb2_n q _))
            refine km_cI (As := [.int 1, .int 2]) (rest := []) (n := 2) (q := (RX8, TX8, 23)) (ci := 8) (t := 30) (i := 0) ⟨hx, hb, hml, hown, hts⟩ (d_X8_takes l E Z v155 1 2 hs192) gX8_readsWord_X8_takes rfl hV_X8_takes ⟨Nat.le_of_ble_eq_true rfl, Nat.le_of_ble_eq_true rfl⟩ hK hw (by decide) (by decide) rfl rfl rfl hl.1 rfl (Nat.le_of_ble_eq_true rfl) dX8_readsWord_104 rfl rfl (fun r193 v194 H locs hp hw => ?_)
            have hF := hF.trans (kb2_some hp _)
            refine lv_bipush (v := 97) hx hb dX8_readsWord_107 (by decide) ?_
            refine lv_isub hx hb dX8_readsWord_109 ?_
            refine lv_istore (lv' := [(4, .int (r193 - 97)), (3, .int r10), (2, .int r7), (1, .int ((8 : Int32) + ((3 : Int32) * 0))), (0, .ref (Z.1 30 0))]) hx hb dX8_readsWord_110 hl (by decide) rfl (fun ls hl => ?_)
            refine lv_aload_n hx hb dX8_readsWord_112 rfl (lv_at hl 4 rfl) ?_
            refine lv_aload_n hx hb dX8_readsWord_113 rfl (lv_at hl 4 rfl) ?_
            refine km_get (ci := 8) (C := RX8) (T := TX8) (N := 23) (t := 30) (i := 0) hx hb hts fi_X8_readsWord_X8 hown hK hw (by decide) (by decide) rfl rfl 11 (by decide) (hts (.fieldLink RX8 98 "WrongWordModel" "token" "I") ow_X8_readsWord_98) rfl dX8_readsWord_114 ?_
            refine lv_iconst (v := 4) hx hb dX8_readsWord_117 (by decide) ?_
            refine lv_icmp_ne (tgt := 125) hx hb dX8_readsWord_118 (by decide) (fun c195 => ?_) (fun c195 => ?_)
            · skip
              have hF := hF.trans (if_neg c195)
              refine lv_iconst (v := 0) hx hb dX8_readsWord_125 (by decide) ?_
              refine lv_iconst (v := 1) hx hb dX8_readsWord_126 (by decide) ?_
              have hs196 : g_X8_takes v194 0 1 ≠ none := fun q => hs (hF.trans (kb2_n q _))
              refine km_cI (As := [.int 0, .int 1]) (rest := []) (n := 2) (q := (RX8, TX8, 23)) (ci := 8) (t := 30) (i := 0) ⟨hx, hb, hml, hown, hts⟩ (d_X8_takes l E Z v194 0 1 hs196) gX8_readsWord_X8_takes rfl hV_X8_takes ⟨Nat.le_of_ble_eq_true rfl, Nat.le_of_ble_eq_true rfl⟩ hK hw (by decide) (by decide) rfl rfl rfl hl.1 rfl (Nat.le_of_ble_eq_true rfl) dX8_readsWord_127 rfl rfl (fun r197 v198 H locs hp hw => ?_)
              have hF := hF.trans (kb2_some hp _)
              refine lv_pop hx hb dX8_readsWord_130 rfl ?_
              refine lv_aload_n hx hb dX8_readsWord_131 rfl (lv_at hl 4 rfl) ?_
              have hs199 : g_X8_isWell v198 ≠ none := fun q => hs (hF.trans (kb_n q _))
              refine km_cI (As := []) (rest := []) (n := 0) (q := (RX8, TX8, 23)) (ci := 8) (t := 30) (i := 0) ⟨hx, hb, hml, hown, hts⟩ (d_X8_isWell l E Z v198  hs199) gX8_readsWord_X8_isWell rfl hV_X8_isWell ⟨Nat.le_of_ble_eq_true rfl, Nat.le_of_ble_eq_true rfl⟩ hK hw (by decide) (by decide) rfl rfl rfl hl.1 rfl (Nat.le_of_ble_eq_true rfl) dX8_readsWord_132 rfl rfl (fun r200 v201 H locs hp hw => ?_)
              obtain ⟨hp, hzr200⟩ := hp
              obtain ⟨hp, rfl⟩ := hp
              have hF := hF.trans (kb_some hp _)
              refine lv_if_eq (tgt := 174) hx hb dX8_readsWord_135 (by decide) (fun c202 => ?_) (fun c202 => ?_)
              · skip
                have hF := hF.trans (if_pos c202)
                exact hret _ _ _ _ _ hw dX8_readsWord_174 hF
              · skip
                have hF := hF.trans (if_neg c202)
                refine lv_aload_n hx hb dX8_readsWord_138 rfl (lv_at hl 4 rfl) ?_
                refine km_get (ci := 8) (C := RX8) (T := TX8) (N := 23) (t := 30) (i := 0) hx hb hts fi_X8_readsWord_X8 hown hK hw (by decide) (by decide) rfl rfl 14 (by decide) (hts (.fieldLink RX8 28 "WrongWordModel" "draft" "[I") ow_X8_readsWord_28) rfl dX8_readsWord_139 ?_
                refine lv_iload_n hx hb dX8_readsWord_142 rfl (lv_at hl 3 rfl) ?_
                refine lv_iload_n hx hb dX8_readsWord_143 rfl (lv_at hl 2 rfl) ?_
                have hb203 : ¬ ((8 : Int32) + ((3 : Int32) * 0) < 0 ∨ 65 ≤ Int32.toNatClampNeg ((8 : Int32) + ((3 : Int32) * 0))) := fun q => hs (hF.trans (if_pos q))
                have hF := hF.trans (if_neg hb203)
                refine km_iast (t := 37) (i := 0) (n := 65) hx hb hK hw (by decide) (by decide) (fun _ => rfl) hb203 dX8_readsWord_144 (fun H locs hw => ?_)
                obtain ⟨v204, ev204⟩ : ∃ z, z = up3 v198 37 0 (Int32.toNatClampNeg ((8 : Int32) + ((3 : Int32) * 0))) r7 := ⟨_, rfl⟩
                rw [← ev204] at hw
                have hF := hF.trans (kb_some (congrArg some ev204.symm) _)
                refine lv_aload_n hx hb dX8_readsWord_145 rfl (lv_at hl 4 rfl) ?_
                refine km_get (ci := 8) (C := RX8) (T := TX8) (N := 23) (t := 30) (i := 0) hx hb hts fi_X8_readsWord_X8 hown hK hw (by decide) (by decide) rfl rfl 14 (by decide) (hts (.fieldLink RX8 28 "WrongWordModel" "draft" "[I") ow_X8_readsWord_28) rfl dX8_readsWord_146 ?_
                refine lv_iload_n hx hb dX8_readsWord_149 rfl (lv_at hl 3 rfl) ?_
                refine lv_iconst (v := 1) hx hb dX8_readsWord_150 (by decide) ?_
                refine lv_iadd hx hb dX8_readsWord_151 ?_
                refine lv_iload_n hx hb dX8_readsWord_152 rfl (lv_at hl 1 rfl) ?_
                have hb205 : ¬ (((8 : Int32) + ((3 : Int32) * 0)) + 1 < 0 ∨ 65 ≤ Int32.toNatClampNeg (((8 : Int32) + ((3 : Int32) * 0)) + 1)) := fun q => hs (hF.trans (if_pos q))
                have hF := hF.trans (if_neg hb205)
                refine km_iast (t := 37) (i := 0) (n := 65) hx hb hK hw (by decide) (by decide) (fun _ => rfl) hb205 dX8_readsWord_153 (fun H locs hw => ?_)
                obtain ⟨v206, ev206⟩ : ∃ z, z = up3 v204 37 0 (Int32.toNatClampNeg (((8 : Int32) + ((3 : Int32) * 0)) + 1)) r10 := ⟨_, rfl⟩
                rw [← ev206] at hw
                have hF := hF.trans (kb_some (congrArg some ev206.symm) _)
                refine lv_aload_n hx hb dX8_readsWord_154 rfl (lv_at hl 4 rfl) ?_
                refine km_get (ci := 8) (C := RX8) (T := TX8) (N := 23) (t := 30) (i := 0) hx hb hts fi_X8_readsWord_X8 hown hK hw (by decide) (by decide) rfl rfl 14 (by decide) (hts (.fieldLink RX8 28 "WrongWordModel" "draft" "[I") ow_X8_readsWord_28) rfl dX8_readsWord_155 ?_
                refine lv_iload_n hx hb dX8_readsWord_158 rfl (lv_at hl 3 rfl) ?_
                refine lv_iconst (v := 2) hx hb dX8_readsWord_159 (by decide) ?_
                refine lv_iadd hx hb dX8_readsWord_160 ?_
                refine lv_iload hx hb dX8_readsWord_161 (lv_at hl 0 rfl) ?_
                have hb207 : ¬ (((8 : Int32) + ((3 : Int32) * 0)) + 2 < 0 ∨ 65 ≤ Int32.toNatClampNeg (((8 : Int32) + ((3 : Int32) * 0)) + 2)) := fun q => hs (hF.trans (if_pos q))
                have hF := hF.trans (if_neg hb207)
                refine km_iast (t := 37) (i := 0) (n := 65) hx hb hK hw (by decide) (by decide) (fun _ => rfl) hb207 dX8_readsWord_163 (fun H locs hw => ?_)
                obtain ⟨v208, ev208⟩ : ∃ z, z = up3 v206 37 0 (Int32.toNatClampNeg (((8 : Int32) + ((3 : Int32) * 0)) + 2)) (r193 - 97) := ⟨_, rfl⟩
                rw [← ev208] at hw
                have hF := hF.trans (kb_some (congrArg some ev208.symm) _)
                refine lv_aload_n hx hb dX8_readsWord_164 rfl (lv_at hl 4 rfl) ?_
                refine km_get (ci := 8) (C := RX8) (T := TX8) (N := 23) (t := 30) (i := 0) hx hb hts fi_X8_readsWord_X8 hown hK hw (by decide) (by decide) rfl rfl 14 (by decide) (hts (.fieldLink RX8 28 "WrongWordModel" "draft" "[I") ow_X8_readsWord_28) rfl dX8_readsWord_165 ?_
                refine lv_iconst (v := 3) hx hb dX8_readsWord_168 (by decide) ?_
                refine lv_dup2_11 hx hb dX8_readsWord_169 rfl rfl ?_
                refine km_iald (t := 37) (i := 0) hx hb hK hw (by decide) (by decide) rfl (by unfold vp_in; decide) dX8_readsWord_170 ?_
                refine lv_iconst (v := 1) hx hb dX8_readsWord_171 (by decide) ?_
                refine lv_iadd hx hb dX8_readsWord_172 ?_
                refine km_iast (t := 37) (i := 0) (n := 65) hx hb hK hw (by decide) (by decide) (fun _ => rfl) (by unfold vp_in; decide) dX8_readsWord_173 (fun H locs hw => ?_)
                obtain ⟨v209, ev209⟩ : ∃ z, z = up3 v208 37 0 (Int32.toNatClampNeg 3) ((v208 37 0 (Int32.toNatClampNeg 3)) + 1) := ⟨_, rfl⟩
                rw [← ev209] at hw
                have hF := hF.trans (kb_some (congrArg some ev209.symm) _)
                exact hret _ _ _ _ _ hw dX8_readsWord_174 hF
            · skip
              have hF := hF.trans (if_pos c195)
              refine lv_iconst (v := 1) hx hb dX8_readsWord_121 (by decide) ?_
              refine lv_goto (tgt := 126) hx hb dX8_readsWord_122 (by decide) ?_
              refine lv_iconst (v := 1) hx hb dX8_readsWord_126 (by decide) ?_
              have hs210 : g_X8_takes v194 1 1 ≠ none := fun q => hs (hF.trans (kb2_n q _))
              refine km_cI (As := [.int 1, .int 1]) (rest := []) (n := 2) (q := (RX8, TX8, 23)) (ci := 8) (t := 30) (i := 0) ⟨hx, hb, hml, hown, hts⟩ (d_X8_takes l E Z v194 1 1 hs210) gX8_readsWord_X8_takes rfl hV_X8_takes ⟨Nat.le_of_ble_eq_true rfl, Nat.le_of_ble_eq_true rfl⟩ hK hw (by decide) (by decide) rfl rfl rfl hl.1 rfl (Nat.le_of_ble_eq_true rfl) dX8_readsWord_127 rfl rfl (fun r211 v212 H locs hp hw => ?_)
              have hF := hF.trans (kb2_some hp _)
              refine lv_pop hx hb dX8_readsWord_130 rfl ?_
              refine lv_aload_n hx hb dX8_readsWord_131 rfl (lv_at hl 4 rfl) ?_
              have hs213 : g_X8_isWell v212 ≠ none := fun q => hs (hF.trans (kb_n q _))
              refine km_cI (As := []) (rest := []) (n := 0) (q := (RX8, TX8, 23)) (ci := 8) (t := 30) (i := 0) ⟨hx, hb, hml, hown, hts⟩ (d_X8_isWell l E Z v212  hs213) gX8_readsWord_X8_isWell rfl hV_X8_isWell ⟨Nat.le_of_ble_eq_true rfl, Nat.le_of_ble_eq_true rfl⟩ hK hw (by decide) (by decide) rfl rfl rfl hl.1 rfl (Nat.le_of_ble_eq_true rfl) dX8_readsWord_132 rfl rfl (fun r214 v215 H locs hp hw => ?_)
              obtain ⟨hp, hzr214⟩ := hp
              obtain ⟨hp, rfl⟩ := hp
              have hF := hF.trans (kb_some hp _)
              refine lv_if_eq (tgt := 174) hx hb dX8_readsWord_135 (by decide) (fun c216 => ?_) (fun c216 => ?_)
              · skip
                have hF := hF.trans (if_pos c216)
                exact hret _ _ _ _ _ hw dX8_readsWord_174 hF
              · skip
                have hF := hF.trans (if_neg c216)
                refine lv_aload_n hx hb dX8_readsWord_138 rfl (lv_at hl 4 rfl) ?_
                refine km_get (ci := 8) (C := RX8) (T := TX8) (N := 23) (t := 30) (i := 0) hx hb hts fi_X8_readsWord_X8 hown hK hw (by decide) (by decide) rfl rfl 14 (by decide) (hts (.fieldLink RX8 28 "WrongWordModel" "draft" "[I") ow_X8_readsWord_28) rfl dX8_readsWord_139 ?_
                refine lv_iload_n hx hb dX8_readsWord_142 rfl (lv_at hl 3 rfl) ?_
                refine lv_iload_n hx hb dX8_readsWord_143 rfl (lv_at hl 2 rfl) ?_
                have hb217 : ¬ ((8 : Int32) + ((3 : Int32) * 0) < 0 ∨ 65 ≤ Int32.toNatClampNeg ((8 : Int32) + ((3 : Int32) * 0))) := fun q => hs (hF.trans (if_pos q))
                have hF := hF.trans (if_neg hb217)
                refine km_iast (t := 37) (i := 0) (n := 65) hx hb hK hw (by decide) (by decide) (fun _ => rfl) hb217 dX8_readsWord_144 (fun H locs hw => ?_)
                obtain ⟨v218, ev218⟩ : ∃ z, z = up3 v212 37 0 (Int32.toNatClampNeg ((8 : Int32) + ((3 : Int32) * 0))) r7 := ⟨_, rfl⟩
                rw [← ev218] at hw
                have hF := hF.trans (kb_some (congrArg some ev218.symm) _)
                refine lv_aload_n hx hb dX8_readsWord_145 rfl (lv_at hl 4 rfl) ?_
                refine km_get (ci := 8) (C := RX8) (T := TX8) (N := 23) (t := 30) (i := 0) hx hb hts fi_X8_readsWord_X8 hown hK hw (by decide) (by decide) rfl rfl 14 (by decide) (hts (.fieldLink RX8 28 "WrongWordModel" "draft" "[I") ow_X8_readsWord_28) rfl dX8_readsWord_146 ?_
                refine lv_iload_n hx hb dX8_readsWord_149 rfl (lv_at hl 3 rfl) ?_
                refine lv_iconst (v := 1) hx hb dX8_readsWord_150 (by decide) ?_
                refine lv_iadd hx hb dX8_readsWord_151 ?_
                refine lv_iload_n hx hb dX8_readsWord_152 rfl (lv_at hl 1 rfl) ?_
                have hb219 : ¬ (((8 : Int32) + ((3 : Int32) * 0)) + 1 < 0 ∨ 65 ≤ Int32.toNatClampNeg (((8 : Int32) + ((3 : Int32) * 0)) + 1)) := fun q => hs (hF.trans (if_pos q))
                have hF := hF.trans (if_neg hb219)
                refine km_iast (t := 37) (i := 0) (n := 65) hx hb hK hw (by decide) (by decide) (fun _ => rfl) hb219 dX8_readsWord_153 (fun H locs hw => ?_)
                obtain ⟨v220, ev220⟩ : ∃ z, z = up3 v218 37 0 (Int32.toNatClampNeg (((8 : Int32) + ((3 : Int32) * 0)) + 1)) r10 := ⟨_, rfl⟩
                rw [← ev220] at hw
                have hF := hF.trans (kb_some (congrArg some ev220.symm) _)
                refine lv_aload_n hx hb dX8_readsWord_154 rfl (lv_at hl 4 rfl) ?_
                refine km_get (ci := 8) (C := RX8) (T := TX8) (N := 23) (t := 30) (i := 0) hx hb hts fi_X8_readsWord_X8 hown hK hw (by decide) (by decide) rfl rfl 14 (by decide) (hts (.fieldLink RX8 28 "WrongWordModel" "draft" "[I") ow_X8_readsWord_28) rfl dX8_readsWord_155 ?_
                refine lv_iload_n hx hb dX8_readsWord_158 rfl (lv_at hl 3 rfl) ?_
                refine lv_iconst (v := 2) hx hb dX8_readsWord_159 (by decide) ?_
                refine lv_iadd hx hb dX8_readsWord_160 ?_
                refine lv_iload hx hb dX8_readsWord_161 (lv_at hl 0 rfl) ?_
                have hb221 : ¬ (((8 : Int32) + ((3 : Int32) * 0)) + 2 < 0 ∨ 65 ≤ Int32.toNatClampNeg (((8 : Int32) + ((3 : Int32) * 0)) + 2)) := fun q => hs (hF.trans (if_pos q))
                have hF := hF.trans (if_neg hb221)
                refine km_iast (t := 37) (i := 0) (n := 65) hx hb hK hw (by decide) (by decide) (fun _ => rfl) hb221 dX8_readsWord_163 (fun H locs hw => ?_)
                obtain ⟨v222, ev222⟩ : ∃ z, z = up3 v220 37 0 (Int32.toNatClampNeg (((8 : Int32) + ((3 : Int32) * 0)) + 2)) (r193 - 97) := ⟨_, rfl⟩
                rw [← ev222] at hw
                have hF := hF.trans (kb_some (congrArg some ev222.symm) _)
                refine lv_aload_n hx hb dX8_readsWord_164 rfl (lv_at hl 4 rfl) ?_
                refine km_get (ci := 8) (C := RX8) (T := TX8) (N := 23) (t := 30) (i := 0) hx hb hts fi_X8_readsWord_X8 hown hK hw (by decide) (by decide) rfl rfl 14 (by decide) (hts (.fieldLink RX8 28 "WrongWordModel" "draft" "[I") ow_X8_readsWord_28) rfl dX8_readsWord_165 ?_
                refine lv_iconst (v := 3) hx hb dX8_readsWord_168 (by decide) ?_
                refine lv_dup2_11 hx hb dX8_readsWord_169 rfl rfl ?_
                refine km_iald (t := 37) (i := 0) hx hb hK hw (by decide) (by decide) rfl (by unfold vp_in; decide) dX8_readsWord_170 ?_
                refine lv_iconst (v := 1) hx hb dX8_readsWord_171 (by decide) ?_
                refine lv_iadd hx hb dX8_readsWord_172 ?_
                refine km_iast (t := 37) (i := 0) (n := 65) hx hb hK hw (by decide) (by decide) (fun _ => rfl) (by unfold vp_in; decide) dX8_readsWord_173 (fun H locs hw => ?_)
                obtain ⟨v223, ev223⟩ : ∃ z, z = up3 v222 37 0 (Int32.toNatClampNeg 3) ((v222 37 0 (Int32.toNatClampNeg 3)) + 1) := ⟨_, rfl⟩
                rw [← ev223] at hw
                have hF := hF.trans (kb_some (congrArg some ev223.symm) _)
                exact hret _ _ _ _ _ hw dX8_readsWord_174 hF
    · skip
      have hF := hF.trans (if_neg c5)
      refine lv_aload_n hx hb dX8_readsWord_36 rfl (lv_at hl 0 rfl) ?_
      refine km_get (ci := 8) (C := RX8) (T := TX8) (N := 23) (t := 30) (i := 0) hx hb hts fi_X8_readsWord_X8 hown hK hw (by decide) (by decide) rfl rfl 14 (by decide) (hts (.fieldLink RX8 28 "WrongWordModel" "draft" "[I") ow_X8_readsWord_28) rfl dX8_readsWord_37 ?_
      refine lv_iconst (v := 3) hx hb dX8_readsWord_40 (by decide) ?_
      refine km_iald (t := 37) (i := 0) hx hb hK hw (by decide) (by decide) rfl (by unfold vp_in; decide) dX8_readsWord_41 ?_
      refine lv_goto (tgt := 46) hx hb dX8_readsWord_42 (by decide) ?_
      refine lv_imul hx hb dX8_readsWord_46 ?_
      refine lv_iadd hx hb dX8_readsWord_47 ?_
      refine lv_topi (fun x224 ex224 => ?_)
      have hF := hF.trans (kb_some (congrArg some ex224.symm) _)
      refine lv_istore_n (lv' := [(1, .int x224), (0, .ref (Z.1 30 0))]) hx hb dX8_readsWord_48 rfl hl (by decide) rfl (fun ls hl => ?_)
      refine lv_aload_n hx hb dX8_readsWord_49 rfl (lv_at hl 1 rfl) ?_
      have hs225 : g_X8_letterOf v4 ≠ none := fun q => hs (hF.trans (kb2_n q _))
      refine km_cI (As := []) (rest := []) (n := 0) (q := (RX8, TX8, 23)) (ci := 8) (t := 30) (i := 0) ⟨hx, hb, hml, hown, hts⟩ (d_X8_letterOf l E Z v4  hs225) gX8_readsWord_X8_letterOf rfl hV_X8_letterOf ⟨Nat.le_of_ble_eq_true rfl, Nat.le_of_ble_eq_true rfl⟩ hK hw (by decide) (by decide) rfl rfl rfl hl.1 rfl (Nat.le_of_ble_eq_true rfl) dX8_readsWord_50 rfl rfl (fun r226 v227 H locs hp hw => ?_)
      have hF := hF.trans (kb2_some hp _)
      refine lv_istore_n (lv' := [(2, .int r226), (1, .int x224), (0, .ref (Z.1 30 0))]) hx hb dX8_readsWord_53 rfl hl (by decide) rfl (fun ls hl => ?_)
      refine lv_aload_n hx hb dX8_readsWord_54 rfl (lv_at hl 2 rfl) ?_
      have hs228 : g_X8_letterOf v227 ≠ none := fun q => hs (hF.trans (kb2_n q _))
      refine km_cI (As := []) (rest := []) (n := 0) (q := (RX8, TX8, 23)) (ci := 8) (t := 30) (i := 0) ⟨hx, hb, hml, hown, hts⟩ (d_X8_letterOf l E Z v227  hs228) gX8_readsWord_X8_letterOf rfl hV_X8_letterOf ⟨Nat.le_of_ble_eq_true rfl, Nat.le_of_ble_eq_true rfl⟩ hK hw (by decide) (by decide) rfl rfl rfl hl.1 rfl (Nat.le_of_ble_eq_true rfl) dX8_readsWord_55 rfl rfl (fun r229 v230 H locs hp hw => ?_)
      have hF := hF.trans (kb2_some hp _)
      refine lv_istore_n (lv' := [(3, .int r229), (2, .int r226), (1, .int x224), (0, .ref (Z.1 30 0))]) hx hb dX8_readsWord_58 rfl hl (by decide) rfl (fun ls hl => ?_)
      refine lv_aload_n hx hb dX8_readsWord_59 rfl (lv_at hl 3 rfl) ?_
      have hs231 : g_X8_isWell v230 ≠ none := fun q => hs (hF.trans (kb_n q _))
      refine km_cI (As := []) (rest := []) (n := 0) (q := (RX8, TX8, 23)) (ci := 8) (t := 30) (i := 0) ⟨hx, hb, hml, hown, hts⟩ (d_X8_isWell l E Z v230  hs231) gX8_readsWord_X8_isWell rfl hV_X8_isWell ⟨Nat.le_of_ble_eq_true rfl, Nat.le_of_ble_eq_true rfl⟩ hK hw (by decide) (by decide) rfl rfl rfl hl.1 rfl (Nat.le_of_ble_eq_true rfl) dX8_readsWord_60 rfl rfl (fun r232 v233 H locs hp hw => ?_)
      obtain ⟨hp, hzr232⟩ := hp
      obtain ⟨hp, rfl⟩ := hp
      have hF := hF.trans (kb_some hp _)
      refine lv_if_eq (tgt := 81) hx hb dX8_readsWord_63 (by decide) (fun c234 => ?_) (fun c234 => ?_)
      · skip
        have hF := hF.trans (if_pos c234)
        refine lv_aload_n hx hb dX8_readsWord_81 rfl (lv_at hl 3 rfl) ?_
        refine lv_aload_n hx hb dX8_readsWord_82 rfl (lv_at hl 3 rfl) ?_
        refine lv_iload_n hx hb dX8_readsWord_83 rfl (lv_at hl 1 rfl) ?_
        refine lv_iload_n hx hb dX8_readsWord_84 rfl (lv_at hl 0 rfl) ?_
        refine lv_aload_n hx hb dX8_readsWord_85 rfl (lv_at hl 3 rfl) ?_
        refine km_get (ci := 8) (C := RX8) (T := TX8) (N := 23) (t := 30) (i := 0) hx hb hts fi_X8_readsWord_X8 hown hK hw (by decide) (by decide) rfl rfl 12 (by decide) (hts (.fieldLink RX8 95 "WrongWordModel" "value" "I") ow_X8_readsWord_95) rfl dX8_readsWord_86 ?_
        refine lv_bipush (v := 97) hx hb dX8_readsWord_89 (by decide) ?_
        refine lv_isub hx hb dX8_readsWord_91 ?_
        have hs235 : g_X8_isTold v230 r226 r229 ((v230 30 0 12) - 97) ≠ none := fun q => hs (hF.trans (kb_n q _))
        refine km_cI (As := [.int r226, .int r229, .int ((v230 30 0 12) - 97)]) (rest := [.ref (Z.1 30 0)]) (n := 3) (q := (RX8, TX8, 23)) (ci := 8) (t := 30) (i := 0) ⟨hx, hb, hml, hown, hts⟩ (d_X8_isTold l E Z v230 r226 r229 ((v230 30 0 12) - 97) hs235) gX8_readsWord_X8_isTold rfl hV_X8_isTold ⟨Nat.le_of_ble_eq_true rfl, Nat.le_of_ble_eq_true rfl⟩ hK hw (by decide) (by decide) rfl rfl rfl hl.1 rfl (Nat.le_of_ble_eq_true rfl) dX8_readsWord_92 rfl rfl (fun r236 v237 H locs hp hw => ?_)
        obtain ⟨hp, hzr236⟩ := hp
        obtain ⟨hp, rfl⟩ := hp
        have hF := hF.trans (kb_some hp _)
        refine lv_if_ne (tgt := 102) hx hb dX8_readsWord_95 (by decide) (fun c238 => ?_) (fun c238 => ?_)
        · skip
          have hF := hF.trans (if_neg c238)
          refine lv_iconst (v := 0) hx hb dX8_readsWord_102 (by decide) ?_
          refine lv_iconst (v := 2) hx hb dX8_readsWord_103 (by decide) ?_
          have hs239 : g_X8_takes v230 0 2 ≠ none := fun q => hs (hF.trans (kb2_n q _))
          refine km_cI (As := [.int 0, .int 2]) (rest := []) (n := 2) (q := (RX8, TX8, 23)) (ci := 8) (t := 30) (i := 0) ⟨hx, hb, hml, hown, hts⟩ (d_X8_takes l E Z v230 0 2 hs239) gX8_readsWord_X8_takes rfl hV_X8_takes ⟨Nat.le_of_ble_eq_true rfl, Nat.le_of_ble_eq_true rfl⟩ hK hw (by decide) (by decide) rfl rfl rfl hl.1 rfl (Nat.le_of_ble_eq_true rfl) dX8_readsWord_104 rfl rfl (fun r240 v241 H locs hp hw => ?_)
          have hF := hF.trans (kb2_some hp _)
          refine lv_bipush (v := 97) hx hb dX8_readsWord_107 (by decide) ?_
          refine lv_isub hx hb dX8_readsWord_109 ?_
          refine lv_istore (lv' := [(4, .int (r240 - 97)), (3, .int r229), (2, .int r226), (1, .int x224), (0, .ref (Z.1 30 0))]) hx hb dX8_readsWord_110 hl (by decide) rfl (fun ls hl => ?_)
          refine lv_aload_n hx hb dX8_readsWord_112 rfl (lv_at hl 4 rfl) ?_
          refine lv_aload_n hx hb dX8_readsWord_113 rfl (lv_at hl 4 rfl) ?_
          refine km_get (ci := 8) (C := RX8) (T := TX8) (N := 23) (t := 30) (i := 0) hx hb hts fi_X8_readsWord_X8 hown hK hw (by decide) (by decide) rfl rfl 11 (by decide) (hts (.fieldLink RX8 98 "WrongWordModel" "token" "I") ow_X8_readsWord_98) rfl dX8_readsWord_114 ?_
          refine lv_iconst (v := 4) hx hb dX8_readsWord_117 (by decide) ?_
          refine lv_icmp_ne (tgt := 125) hx hb dX8_readsWord_118 (by decide) (fun c242 => ?_) (fun c242 => ?_)
          · skip
            have hF := hF.trans (if_neg c242)
            refine lv_iconst (v := 0) hx hb dX8_readsWord_125 (by decide) ?_
            refine lv_iconst (v := 1) hx hb dX8_readsWord_126 (by decide) ?_
            have hs243 : g_X8_takes v241 0 1 ≠ none := fun q => hs (hF.trans (kb2_n q _))
            refine km_cI (As := [.int 0, .int 1]) (rest := []) (n := 2) (q := (RX8, TX8, 23)) (ci := 8) (t := 30) (i := 0) ⟨hx, hb, hml, hown, hts⟩ (d_X8_takes l E Z v241 0 1 hs243) gX8_readsWord_X8_takes rfl hV_X8_takes ⟨Nat.le_of_ble_eq_true rfl, Nat.le_of_ble_eq_true rfl⟩ hK hw (by decide) (by decide) rfl rfl rfl hl.1 rfl (Nat.le_of_ble_eq_true rfl) dX8_readsWord_127 rfl rfl (fun r244 v245 H locs hp hw => ?_)
            have hF := hF.trans (kb2_some hp _)
            refine lv_pop hx hb dX8_readsWord_130 rfl ?_
            refine lv_aload_n hx hb dX8_readsWord_131 rfl (lv_at hl 4 rfl) ?_
            have hs246 : g_X8_isWell v245 ≠ none := fun q => hs (hF.trans (kb_n q _))
            refine km_cI (As := []) (rest := []) (n := 0) (q := (RX8, TX8, 23)) (ci := 8) (t := 30) (i := 0) ⟨hx, hb, hml, hown, hts⟩ (d_X8_isWell l E Z v245  hs246) gX8_readsWord_X8_isWell rfl hV_X8_isWell ⟨Nat.le_of_ble_eq_true rfl, Nat.le_of_ble_eq_true rfl⟩ hK hw (by decide) (by decide) rfl rfl rfl hl.1 rfl (Nat.le_of_ble_eq_true rfl) dX8_readsWord_132 rfl rfl (fun r247 v248 H locs hp hw => ?_)
            obtain ⟨hp, hzr247⟩ := hp
            obtain ⟨hp, rfl⟩ := hp
            have hF := hF.trans (kb_some hp _)
            refine lv_if_eq (tgt := 174) hx hb dX8_readsWord_135 (by decide) (fun c249 => ?_) (fun c249 => ?_)
            · skip
              have hF := hF.trans (if_pos c249)
              exact hret _ _ _ _ _ hw dX8_readsWord_174 hF
            · skip
              have hF := hF.trans (if_neg c249)
              refine lv_aload_n hx hb dX8_readsWord_138 rfl (lv_at hl 4 rfl) ?_
              refine km_get (ci := 8) (C := RX8) (T := TX8) (N := 23) (t := 30) (i := 0) hx hb hts fi_X8_readsWord_X8 hown hK hw (by decide) (by decide) rfl rfl 14 (by decide) (hts (.fieldLink RX8 28 "WrongWordModel" "draft" "[I") ow_X8_readsWord_28) rfl dX8_readsWord_139 ?_
              refine lv_iload_n hx hb dX8_readsWord_142 rfl (lv_at hl 3 rfl) ?_
              refine lv_iload_n hx hb dX8_readsWord_143 rfl (lv_at hl 2 rfl) ?_
              have hb250 : ¬ (x224 < 0 ∨ 65 ≤ Int32.toNatClampNeg x224) := fun q => hs (hF.trans (if_pos q))
              have hF := hF.trans (if_neg hb250)
              refine km_iast (t := 37) (i := 0) (n := 65) hx hb hK hw (by decide) (by decide) (fun _ => rfl) hb250 dX8_readsWord_144 (fun H locs hw => ?_)
              obtain ⟨v251, ev251⟩ : ∃ z, z = up3 v245 37 0 (Int32.toNatClampNeg x224) r226 := ⟨_, rfl⟩
              rw [← ev251] at hw
              have hF := hF.trans (kb_some (congrArg some ev251.symm) _)
              refine lv_aload_n hx hb dX8_readsWord_145 rfl (lv_at hl 4 rfl) ?_
              refine km_get (ci := 8) (C := RX8) (T := TX8) (N := 23) (t := 30) (i := 0) hx hb hts fi_X8_readsWord_X8 hown hK hw (by decide) (by decide) rfl rfl 14 (by decide) (hts (.fieldLink RX8 28 "WrongWordModel" "draft" "[I") ow_X8_readsWord_28) rfl dX8_readsWord_146 ?_
              refine lv_iload_n hx hb dX8_readsWord_149 rfl (lv_at hl 3 rfl) ?_
              refine lv_iconst (v := 1) hx hb dX8_readsWord_150 (by decide) ?_
              refine lv_iadd hx hb dX8_readsWord_151 ?_
              refine lv_iload_n hx hb dX8_readsWord_152 rfl (lv_at hl 1 rfl) ?_
              have hb252 : ¬ (x224 + 1 < 0 ∨ 65 ≤ Int32.toNatClampNeg (x224 + 1)) := fun q => hs (hF.trans (if_pos q))
              have hF := hF.trans (if_neg hb252)
              refine km_iast (t := 37) (i := 0) (n := 65) hx hb hK hw (by decide) (by decide) (fun _ => rfl) hb252 dX8_readsWord_153 (fun H locs hw => ?_)
              obtain ⟨v253, ev253⟩ : ∃ z, z = up3 v251 37 0 (Int32.toNatClampNeg (x224 + 1)) r229 := ⟨_, rfl⟩
              rw [← ev253] at hw
              have hF := hF.trans (kb_some (congrArg some ev253.symm) _)
              refine lv_aload_n hx hb dX8_readsWord_154 rfl (lv_at hl 4 rfl) ?_
              refine km_get (ci := 8) (C := RX8) (T := TX8) (N := 23) (t := 30) (i := 0) hx hb hts fi_X8_readsWord_X8 hown hK hw (by decide) (by decide) rfl rfl 14 (by decide) (hts (.fieldLink RX8 28 "WrongWordModel" "draft" "[I") ow_X8_readsWord_28) rfl dX8_readsWord_155 ?_
              refine lv_iload_n hx hb dX8_readsWord_158 rfl (lv_at hl 3 rfl) ?_
              refine lv_iconst (v := 2) hx hb dX8_readsWord_159 (by decide) ?_
              refine lv_iadd hx hb dX8_readsWord_160 ?_
              refine lv_iload hx hb dX8_readsWord_161 (lv_at hl 0 rfl) ?_
              have hb254 : ¬ (x224 + 2 < 0 ∨ 65 ≤ Int32.toNatClampNeg (x224 + 2)) := fun q => hs (hF.trans (if_pos q))
              have hF := hF.trans (if_neg hb254)
              refine km_iast (t := 37) (i := 0) (n := 65) hx hb hK hw (by decide) (by decide) (fun _ => rfl) hb254 dX8_readsWord_163 (fun H locs hw => ?_)
              obtain ⟨v255, ev255⟩ : ∃ z, z = up3 v253 37 0 (Int32.toNatClampNeg (x224 + 2)) (r240 - 97) := ⟨_, rfl⟩
              rw [← ev255] at hw
              have hF := hF.trans (kb_some (congrArg some ev255.symm) _)
              refine lv_aload_n hx hb dX8_readsWord_164 rfl (lv_at hl 4 rfl) ?_
              refine km_get (ci := 8) (C := RX8) (T := TX8) (N := 23) (t := 30) (i := 0) hx hb hts fi_X8_readsWord_X8 hown hK hw (by decide) (by decide) rfl rfl 14 (by decide) (hts (.fieldLink RX8 28 "WrongWordModel" "draft" "[I") ow_X8_readsWord_28) rfl dX8_readsWord_165 ?_
              refine lv_iconst (v := 3) hx hb dX8_readsWord_168 (by decide) ?_
              refine lv_dup2_11 hx hb dX8_readsWord_169 rfl rfl ?_
              refine km_iald (t := 37) (i := 0) hx hb hK hw (by decide) (by decide) rfl (by unfold vp_in; decide) dX8_readsWord_170 ?_
              refine lv_iconst (v := 1) hx hb dX8_readsWord_171 (by decide) ?_
              refine lv_iadd hx hb dX8_readsWord_172 ?_
              refine km_iast (t := 37) (i := 0) (n := 65) hx hb hK hw (by decide) (by decide) (fun _ => rfl) (by unfold vp_in; decide) dX8_readsWord_173 (fun H locs hw => ?_)
              obtain ⟨v256, ev256⟩ : ∃ z, z = up3 v255 37 0 (Int32.toNatClampNeg 3) ((v255 37 0 (Int32.toNatClampNeg 3)) + 1) := ⟨_, rfl⟩
              rw [← ev256] at hw
              have hF := hF.trans (kb_some (congrArg some ev256.symm) _)
              exact hret _ _ _ _ _ hw dX8_readsWord_174 hF
          · skip
            have hF := hF.trans (if_pos c242)
            refine lv_iconst (v := 1) hx hb dX8_readsWord_121 (by decide) ?_
            refine lv_goto (tgt := 126) hx hb dX8_readsWord_122 (by decide) ?_
            refine lv_iconst (v := 1) hx hb dX8_readsWord_126 (by decide) ?_
            have hs257 : g_X8_takes v241 1 1 ≠ none := fun q => hs (hF.trans (kb2_n q _))
            refine km_cI (As := [.int 1, .int 1]) (rest := []) (n := 2) (q := (RX8, TX8, 23)) (ci := 8) (t := 30) (i := 0) ⟨hx, hb, hml, hown, hts⟩ (d_X8_takes l E Z v241 1 1 hs257) gX8_readsWord_X8_takes rfl hV_X8_takes ⟨Nat.le_of_ble_eq_true rfl, Nat.le_of_ble_eq_true rfl⟩ hK hw (by decide) (by decide) rfl rfl rfl hl.1 rfl (Nat.le_of_ble_eq_true rfl) dX8_readsWord_127 rfl rfl (fun r258 v259 H locs hp hw => ?_)
            have hF := hF.trans (kb2_some hp _)
            refine lv_pop hx hb dX8_readsWord_130 rfl ?_
            refine lv_aload_n hx hb dX8_readsWord_131 rfl (lv_at hl 4 rfl) ?_
            have hs260 : g_X8_isWell v259 ≠ none := fun q => hs (hF.trans (kb_n q _))
            refine km_cI (As := []) (rest := []) (n := 0) (q := (RX8, TX8, 23)) (ci := 8) (t := 30) (i := 0) ⟨hx, hb, hml, hown, hts⟩ (d_X8_isWell l E Z v259  hs260) gX8_readsWord_X8_isWell rfl hV_X8_isWell ⟨Nat.le_of_ble_eq_true rfl, Nat.le_of_ble_eq_true rfl⟩ hK hw (by decide) (by decide) rfl rfl rfl hl.1 rfl (Nat.le_of_ble_eq_true rfl) dX8_readsWord_132 rfl rfl (fun r261 v262 H locs hp hw => ?_)
            obtain ⟨hp, hzr261⟩ := hp
            obtain ⟨hp, rfl⟩ := hp
            have hF := hF.trans (kb_some hp _)
            refine lv_if_eq (tgt := 174) hx hb dX8_readsWord_135 (by decide) (fun c263 => ?_) (fun c263 => ?_)
            · skip
              have hF := hF.trans (if_pos c263)
              exact hret _ _ _ _ _ hw dX8_readsWord_174 hF
            · skip
              have hF := hF.trans (if_neg c263)
              refine lv_aload_n hx hb dX8_readsWord_138 rfl (lv_at hl 4 rfl) ?_
              refine km_get (ci := 8) (C := RX8) (T := TX8) (N := 23) (t := 30) (i := 0) hx hb hts fi_X8_readsWord_X8 hown hK hw (by decide) (by decide) rfl rfl 14 (by decide) (hts (.fieldLink RX8 28 "WrongWordModel" "draft" "[I") ow_X8_readsWord_28) rfl dX8_readsWord_139 ?_
              refine lv_iload_n hx hb dX8_readsWord_142 rfl (lv_at hl 3 rfl) ?_
              refine lv_iload_n hx hb dX8_readsWord_143 rfl (lv_at hl 2 rfl) ?_
              have hb264 : ¬ (x224 < 0 ∨ 65 ≤ Int32.toNatClampNeg x224) := fun q => hs (hF.trans (if_pos q))
              have hF := hF.trans (if_neg hb264)
              refine km_iast (t := 37) (i := 0) (n := 65) hx hb hK hw (by decide) (by decide) (fun _ => rfl) hb264 dX8_readsWord_144 (fun H locs hw => ?_)
              obtain ⟨v265, ev265⟩ : ∃ z, z = up3 v259 37 0 (Int32.toNatClampNeg x224) r226 := ⟨_, rfl⟩
              rw [← ev265] at hw
              have hF := hF.trans (kb_some (congrArg some ev265.symm) _)
              refine lv_aload_n hx hb dX8_readsWord_145 rfl (lv_at hl 4 rfl) ?_
              refine km_get (ci := 8) (C := RX8) (T := TX8) (N := 23) (t := 30) (i := 0) hx hb hts fi_X8_readsWord_X8 hown hK hw (by decide) (by decide) rfl rfl 14 (by decide) (hts (.fieldLink RX8 28 "WrongWordModel" "draft" "[I") ow_X8_readsWord_28) rfl dX8_readsWord_146 ?_
              refine lv_iload_n hx hb dX8_readsWord_149 rfl (lv_at hl 3 rfl) ?_
              refine lv_iconst (v := 1) hx hb dX8_readsWord_150 (by decide) ?_
              refine lv_iadd hx hb dX8_readsWord_151 ?_
              refine lv_iload_n hx hb dX8_readsWord_152 rfl (lv_at hl 1 rfl) ?_
              have hb266 : ¬ (x224 + 1 < 0 ∨ 65 ≤ Int32.toNatClampNeg (x224 + 1)) := fun q => hs (hF.trans (if_pos q))
              have hF := hF.trans (if_neg hb266)
              refine km_iast (t := 37) (i := 0) (n := 65) hx hb hK hw (by decide) (by decide) (fun _ => rfl) hb266 dX8_readsWord_153 (fun H locs hw => ?_)
              obtain ⟨v267, ev267⟩ : ∃ z, z = up3 v265 37 0 (Int32.toNatClampNeg (x224 + 1)) r229 := ⟨_, rfl⟩
              rw [← ev267] at hw
              have hF := hF.trans (kb_some (congrArg some ev267.symm) _)
              refine lv_aload_n hx hb dX8_readsWord_154 rfl (lv_at hl 4 rfl) ?_
              refine km_get (ci := 8) (C := RX8) (T := TX8) (N := 23) (t := 30) (i := 0) hx hb hts fi_X8_readsWord_X8 hown hK hw (by decide) (by decide) rfl rfl 14 (by decide) (hts (.fieldLink RX8 28 "WrongWordModel" "draft" "[I") ow_X8_readsWord_28) rfl dX8_readsWord_155 ?_
              refine lv_iload_n hx hb dX8_readsWord_158 rfl (lv_at hl 3 rfl) ?_
              refine lv_iconst (v := 2) hx hb dX8_readsWord_159 (by decide) ?_
              refine lv_iadd hx hb dX8_readsWord_160 ?_
              refine lv_iload hx hb dX8_readsWord_161 (lv_at hl 0 rfl) ?_
              have hb268 : ¬ (x224 + 2 < 0 ∨ 65 ≤ Int32.toNatClampNeg (x224 + 2)) := fun q => hs (hF.trans (if_pos q))
              have hF := hF.trans (if_neg hb268)
              refine km_iast (t := 37) (i := 0) (n := 65) hx hb hK hw (by decide) (by decide) (fun _ => rfl) hb268 dX8_readsWord_163 (fun H locs hw => ?_)
              obtain ⟨v269, ev269⟩ : ∃ z, z = up3 v267 37 0 (Int32.toNatClampNeg (x224 + 2)) (r240 - 97) := ⟨_, rfl⟩
              rw [← ev269] at hw
              have hF := hF.trans (kb_some (congrArg some ev269.symm) _)
              refine lv_aload_n hx hb dX8_readsWord_164 rfl (lv_at hl 4 rfl) ?_
              refine km_get (ci := 8) (C := RX8) (T := TX8) (N := 23) (t := 30) (i := 0) hx hb hts fi_X8_readsWord_X8 hown hK hw (by decide) (by decide) rfl rfl 14 (by decide) (hts (.fieldLink RX8 28 "WrongWordModel" "draft" "[I") ow_X8_readsWord_28) rfl dX8_readsWord_165 ?_
              refine lv_iconst (v := 3) hx hb dX8_readsWord_168 (by decide) ?_
              refine lv_dup2_11 hx hb dX8_readsWord_169 rfl rfl ?_
              refine km_iald (t := 37) (i := 0) hx hb hK hw (by decide) (by decide) rfl (by unfold vp_in; decide) dX8_readsWord_170 ?_
              refine lv_iconst (v := 1) hx hb dX8_readsWord_171 (by decide) ?_
              refine lv_iadd hx hb dX8_readsWord_172 ?_
              refine km_iast (t := 37) (i := 0) (n := 65) hx hb hK hw (by decide) (by decide) (fun _ => rfl) (by unfold vp_in; decide) dX8_readsWord_173 (fun H locs hw => ?_)
              obtain ⟨v270, ev270⟩ : ∃ z, z = up3 v269 37 0 (Int32.toNatClampNeg 3) ((v269 37 0 (Int32.toNatClampNeg 3)) + 1) := ⟨_, rfl⟩
              rw [← ev270] at hw
              have hF := hF.trans (kb_some (congrArg some ev270.symm) _)
              exact hret _ _ _ _ _ hw dX8_readsWord_174 hF
        · skip
          have hF := hF.trans (if_pos c238)
          refine lv_iconst (v := 1) hx hb dX8_readsWord_98 (by decide) ?_
          refine lv_goto (tgt := 103) hx hb dX8_readsWord_99 (by decide) ?_
          refine lv_iconst (v := 2) hx hb dX8_readsWord_103 (by decide) ?_
          have hs271 : g_X8_takes v230 1 2 ≠ none := fun q => hs (hF.trans (kb2_n q _))
          refine km_cI (As := [.int 1, .int 2]) (rest := []) (n := 2) (q := (RX8, TX8, 23)) (ci := 8) (t := 30) (i := 0) ⟨hx, hb, hml, hown, hts⟩ (d_X8_takes l E Z v230 1 2 hs271) gX8_readsWord_X8_takes rfl hV_X8_takes ⟨Nat.le_of_ble_eq_true rfl, Nat.le_of_ble_eq_true rfl⟩ hK hw (by decide) (by decide) rfl rfl rfl hl.1 rfl (Nat.le_of_ble_eq_true rfl) dX8_readsWord_104 rfl rfl (fun r272 v273 H locs hp hw => ?_)
          have hF := hF.trans (kb2_some hp _)
          refine lv_bipush (v := 97) hx hb dX8_readsWord_107 (by decide) ?_
          refine lv_isub hx hb dX8_readsWord_109 ?_
          refine lv_istore (lv' := [(4, .int (r272 - 97)), (3, .int r229), (2, .int r226), (1, .int x224), (0, .ref (Z.1 30 0))]) hx hb dX8_readsWord_110 hl (by decide) rfl (fun ls hl => ?_)
          refine lv_aload_n hx hb dX8_readsWord_112 rfl (lv_at hl 4 rfl) ?_
          refine lv_aload_n hx hb dX8_readsWord_113 rfl (lv_at hl 4 rfl) ?_
          refine km_get (ci := 8) (C := RX8) (T := TX8) (N := 23) (t := 30) (i := 0) hx hb hts fi_X8_readsWord_X8 hown hK hw (by decide) (by decide) rfl rfl 11 (by decide) (hts (.fieldLink RX8 98 "WrongWordModel" "token" "I") ow_X8_readsWord_98) rfl dX8_readsWord_114 ?_
          refine lv_iconst (v := 4) hx hb dX8_readsWord_117 (by decide) ?_
          refine lv_icmp_ne (tgt := 125) hx hb dX8_readsWord_118 (by decide) (fun c274 => ?_) (fun c274 => ?_)
          · skip
            have hF := hF.trans (if_neg c274)
            refine lv_iconst (v := 0) hx hb dX8_readsWord_125 (by decide) ?_
            refine lv_iconst (v := 1) hx hb dX8_readsWord_126 (by decide) ?_
            have hs275 : g_X8_takes v273 0 1 ≠ none := fun q => hs (hF.trans (kb2_n q _))
            refine km_cI (As := [.int 0, .int 1]) (rest := []) (n := 2) (q := (RX8, TX8, 23)) (ci := 8) (t := 30) (i := 0) ⟨hx, hb, hml, hown, hts⟩ (d_X8_takes l E Z v273 0 1 hs275) gX8_readsWord_X8_takes rfl hV_X8_takes ⟨Nat.le_of_ble_eq_true rfl, Nat.le_of_ble_eq_true rfl⟩ hK hw (by decide) (by decide) rfl rfl rfl hl.1 rfl (Nat.le_of_ble_eq_true rfl) dX8_readsWord_127 rfl rfl (fun r276 v277 H locs hp hw => ?_)
            have hF := hF.trans (kb2_some hp _)
            refine lv_pop hx hb dX8_readsWord_130 rfl ?_
            refine lv_aload_n hx hb dX8_readsWord_131 rfl (lv_at hl 4 rfl) ?_
            have hs278 : g_X8_isWell v277 ≠ none := fun q => hs (hF.trans (kb_n q _))
            refine km_cI (As := []) (rest := []) (n := 0) (q := (RX8, TX8, 23)) (ci := 8) (t := 30) (i := 0) ⟨hx, hb, hml, hown, hts⟩ (d_X8_isWell l E Z v277  hs278) gX8_readsWord_X8_isWell rfl hV_X8_isWell ⟨Nat.le_of_ble_eq_true rfl, Nat.le_of_ble_eq_true rfl⟩ hK hw (by decide) (by decide) rfl rfl rfl hl.1 rfl (Nat.le_of_ble_eq_true rfl) dX8_readsWord_132 rfl rfl (fun r279 v280 H locs hp hw => ?_)
            obtain ⟨hp, hzr279⟩ := hp
            obtain ⟨hp, rfl⟩ := hp
            have hF := hF.trans (kb_some hp _)
            refine lv_if_eq (tgt := 174) hx hb dX8_readsWord_135 (by decide) (fun c281 => ?_) (fun c281 => ?_)
            · skip
              have hF := hF.trans (if_pos c281)
              exact hret _ _ _ _ _ hw dX8_readsWord_174 hF
            · skip
              have hF := hF.trans (if_neg c281)
              refine lv_aload_n hx hb dX8_readsWord_138 rfl (lv_at hl 4 rfl) ?_
              refine km_get (ci := 8) (C := RX8) (T := TX8) (N := 23) (t := 30) (i := 0) hx hb hts fi_X8_readsWord_X8 hown hK hw (by decide) (by decide) rfl rfl 14 (by decide) (hts (.fieldLink RX8 28 "WrongWordModel" "draft" "[I") ow_X8_readsWord_28) rfl dX8_readsWord_139 ?_
              refine lv_iload_n hx hb dX8_readsWord_142 rfl (lv_at hl 3 rfl) ?_
              refine lv_iload_n hx hb dX8_readsWord_143 rfl (lv_at hl 2 rfl) ?_
              have hb282 : ¬ (x224 < 0 ∨ 65 ≤ Int32.toNatClampNeg x224) := fun q => hs (hF.trans (if_pos q))
              have hF := hF.trans (if_neg hb282)
              refine km_iast (t := 37) (i := 0) (n := 65) hx hb hK hw (by decide) (by decide) (fun _ => rfl) hb282 dX8_readsWord_144 (fun H locs hw => ?_)
              obtain ⟨v283, ev283⟩ : ∃ z, z = up3 v277 37 0 (Int32.toNatClampNeg x224) r226 := ⟨_, rfl⟩
              rw [← ev283] at hw
              have hF := hF.trans (kb_some (congrArg some ev283.symm) _)
              refine lv_aload_n hx hb dX8_readsWord_145 rfl (lv_at hl 4 rfl) ?_
              refine km_get (ci := 8) (C := RX8) (T := TX8) (N := 23) (t := 30) (i := 0) hx hb hts fi_X8_readsWord_X8 hown hK hw (by decide) (by decide) rfl rfl 14 (by decide) (hts (.fieldLink RX8 28 "WrongWordModel" "draft" "[I") ow_X8_readsWord_28) rfl dX8_readsWord_146 ?_
              refine lv_iload_n hx hb dX8_readsWord_149 rfl (lv_at hl 3 rfl) ?_
              refine lv_iconst (v := 1) hx hb dX8_readsWord_150 (by decide) ?_
              refine lv_iadd hx hb dX8_readsWord_151 ?_
              refine lv_iload_n hx hb dX8_readsWord_152 rfl (lv_at hl 1 rfl) ?_
              have hb284 : ¬ (x224 + 1 < 0 ∨ 65 ≤ Int32.toNatClampNeg (x224 + 1)) := fun q => hs (hF.trans (if_pos q))
              have hF := hF.trans (if_neg hb284)
              refine km_iast (t := 37) (i := 0) (n := 65) hx hb hK hw (by decide) (by decide) (fun _ => rfl) hb284 dX8_readsWord_153 (fun H locs hw => ?_)
              obtain ⟨v285, ev285⟩ : ∃ z, z = up3 v283 37 0 (Int32.toNatClampNeg (x224 + 1)) r229 := ⟨_, rfl⟩
              rw [← ev285] at hw
              have hF := hF.trans (kb_some (congrArg some ev285.symm) _)
              refine lv_aload_n hx hb dX8_readsWord_154 rfl (lv_at hl 4 rfl) ?_
              refine km_get (ci := 8) (C := RX8) (T := TX8) (N := 23) (t := 30) (i := 0) hx hb hts fi_X8_readsWord_X8 hown hK hw (by decide) (by decide) rfl rfl 14 (by decide) (hts (.fieldLink RX8 28 "WrongWordModel" "draft" "[I") ow_X8_readsWord_28) rfl dX8_readsWord_155 ?_
              refine lv_iload_n hx hb dX8_readsWord_158 rfl (lv_at hl 3 rfl) ?_
              refine lv_iconst (v := 2) hx hb dX8_readsWord_159 (by decide) ?_
              refine lv_iadd hx hb dX8_readsWord_160 ?_
              refine lv_iload hx hb dX8_readsWord_161 (lv_at hl 0 rfl) ?_
              have hb286 : ¬ (x224 + 2 < 0 ∨ 65 ≤ Int32.toNatClampNeg (x224 + 2)) := fun q => hs (hF.trans (if_pos q))
              have hF := hF.trans (if_neg hb286)
              refine km_iast (t := 37) (i := 0) (n := 65) hx hb hK hw (by decide) (by decide) (fun _ => rfl) hb286 dX8_readsWord_163 (fun H locs hw => ?_)
              obtain ⟨v287, ev287⟩ : ∃ z, z = up3 v285 37 0 (Int32.toNatClampNeg (x224 + 2)) (r272 - 97) := ⟨_, rfl⟩
              rw [← ev287] at hw
              have hF := hF.trans (kb_some (congrArg some ev287.symm) _)
              refine lv_aload_n hx hb dX8_readsWord_164 rfl (lv_at hl 4 rfl) ?_
              refine km_get (ci := 8) (C := RX8) (T := TX8) (N := 23) (t := 30) (i := 0) hx hb hts fi_X8_readsWord_X8 hown hK hw (by decide) (by decide) rfl rfl 14 (by decide) (hts (.fieldLink RX8 28 "WrongWordModel" "draft" "[I") ow_X8_readsWord_28) rfl dX8_readsWord_165 ?_
              refine lv_iconst (v := 3) hx hb dX8_readsWord_168 (by decide) ?_
              refine lv_dup2_11 hx hb dX8_readsWord_169 rfl rfl ?_
              refine km_iald (t := 37) (i := 0) hx hb hK hw (by decide) (by decide) rfl (by unfold vp_in; decide) dX8_readsWord_170 ?_
              refine lv_iconst (v := 1) hx hb dX8_readsWord_171 (by decide) ?_
              refine lv_iadd hx hb dX8_readsWord_172 ?_
              refine km_iast (t := 37) (i := 0) (n := 65) hx hb hK hw (by decide) (by decide) (fun _ => rfl) (by unfold vp_in; decide) dX8_readsWord_173 (fun H locs hw => ?_)
              obtain ⟨v288, ev288⟩ : ∃ z, z = up3 v287 37 0 (Int32.toNatClampNeg 3) ((v287 37 0 (Int32.toNatClampNeg 3)) + 1) := ⟨_, rfl⟩
              rw [← ev288] at hw
              have hF := hF.trans (kb_some (congrArg some ev288.symm) _)
              exact hret _ _ _ _ _ hw dX8_readsWord_174 hF
          · skip
            have hF := hF.trans (if_pos c274)
            refine lv_iconst (v := 1) hx hb dX8_readsWord_121 (by decide) ?_
            refine lv_goto (tgt := 126) hx hb dX8_readsWord_122 (by decide) ?_
            refine lv_iconst (v := 1) hx hb dX8_readsWord_126 (by decide) ?_
            have hs289 : g_X8_takes v273 1 1 ≠ none := fun q => hs (hF.trans (kb2_n q _))
            refine km_cI (As := [.int 1, .int 1]) (rest := []) (n := 2) (q := (RX8, TX8, 23)) (ci := 8) (t := 30) (i := 0) ⟨hx, hb, hml, hown, hts⟩ (d_X8_takes l E Z v273 1 1 hs289) gX8_readsWord_X8_takes rfl hV_X8_takes ⟨Nat.le_of_ble_eq_true rfl, Nat.le_of_ble_eq_true rfl⟩ hK hw (by decide) (by decide) rfl rfl rfl hl.1 rfl (Nat.le_of_ble_eq_true rfl) dX8_readsWord_127 rfl rfl (fun r290 v291 H locs hp hw => ?_)
            have hF := hF.trans (kb2_some hp _)
            refine lv_pop hx hb dX8_readsWord_130 rfl ?_
            refine lv_aload_n hx hb dX8_readsWord_131 rfl (lv_at hl 4 rfl) ?_
            have hs292 : g_X8_isWell v291 ≠ none := fun q => hs (hF.trans (kb_n q _))
            refine km_cI (As := []) (rest := []) (n := 0) (q := (RX8, TX8, 23)) (ci := 8) (t := 30) (i := 0) ⟨hx, hb, hml, hown, hts⟩ (d_X8_isWell l E Z v291  hs292) gX8_readsWord_X8_isWell rfl hV_X8_isWell ⟨Nat.le_of_ble_eq_true rfl, Nat.le_of_ble_eq_true rfl⟩ hK hw (by decide) (by decide) rfl rfl rfl hl.1 rfl (Nat.le_of_ble_eq_true rfl) dX8_readsWord_132 rfl rfl (fun r293 v294 H locs hp hw => ?_)
            obtain ⟨hp, hzr293⟩ := hp
            obtain ⟨hp, rfl⟩ := hp
            have hF := hF.trans (kb_some hp _)
            refine lv_if_eq (tgt := 174) hx hb dX8_readsWord_135 (by decide) (fun c295 => ?_) (fun c295 => ?_)
            · skip
              have hF := hF.trans (if_pos c295)
              exact hret _ _ _ _ _ hw dX8_readsWord_174 hF
            · skip
              have hF := hF.trans (if_neg c295)
              refine lv_aload_n hx hb dX8_readsWord_138 rfl (lv_at hl 4 rfl) ?_
              refine km_get (ci := 8) (C := RX8) (T := TX8) (N := 23) (t := 30) (i := 0) hx hb hts fi_X8_readsWord_X8 hown hK hw (by decide) (by decide) rfl rfl 14 (by decide) (hts (.fieldLink RX8 28 "WrongWordModel" "draft" "[I") ow_X8_readsWord_28) rfl dX8_readsWord_139 ?_
              refine lv_iload_n hx hb dX8_readsWord_142 rfl (lv_at hl 3 rfl) ?_
              refine lv_iload_n hx hb dX8_readsWord_143 rfl (lv_at hl 2 rfl) ?_
              have hb296 : ¬ (x224 < 0 ∨ 65 ≤ Int32.toNatClampNeg x224) := fun q => hs (hF.trans (if_pos q))
              have hF := hF.trans (if_neg hb296)
              refine km_iast (t := 37) (i := 0) (n := 65) hx hb hK hw (by decide) (by decide) (fun _ => rfl) hb296 dX8_readsWord_144 (fun H locs hw => ?_)
              obtain ⟨v297, ev297⟩ : ∃ z, z = up3 v291 37 0 (Int32.toNatClampNeg x224) r226 := ⟨_, rfl⟩
              rw [← ev297] at hw
              have hF := hF.trans (kb_some (congrArg some ev297.symm) _)
              refine lv_aload_n hx hb dX8_readsWord_145 rfl (lv_at hl 4 rfl) ?_
              refine km_get (ci := 8) (C := RX8) (T := TX8) (N := 23) (t := 30) (i := 0) hx hb hts fi_X8_readsWord_X8 hown hK hw (by decide) (by decide) rfl rfl 14 (by decide) (hts (.fieldLink RX8 28 "WrongWordModel" "draft" "[I") ow_X8_readsWord_28) rfl dX8_readsWord_146 ?_
              refine lv_iload_n hx hb dX8_readsWord_149 rfl (lv_at hl 3 rfl) ?_
              refine lv_iconst (v := 1) hx hb dX8_readsWord_150 (by decide) ?_
              refine lv_iadd hx hb dX8_readsWord_151 ?_
              refine lv_iload_n hx hb dX8_readsWord_152 rfl (lv_at hl 1 rfl) ?_
              have hb298 : ¬ (x224 + 1 < 0 ∨ 65 ≤ Int32.toNatClampNeg (x224 + 1)) := fun q => hs (hF.trans (if_pos q))
              have hF := hF.trans (if_neg hb298)
              refine km_iast (t := 37) (i := 0) (n := 65) hx hb hK hw (by decide) (by decide) (fun _ => rfl) hb298 dX8_readsWord_153 (fun H locs hw => ?_)
              obtain ⟨v299, ev299⟩ : ∃ z, z = up3 v297 37 0 (Int32.toNatClampNeg (x224 + 1)) r229 := ⟨_, rfl⟩
              rw [← ev299] at hw
              have hF := hF.trans (kb_some (congrArg some ev299.symm) _)
              refine lv_aload_n hx hb dX8_readsWord_154 rfl (lv_at hl 4 rfl) ?_
              refine km_get (ci := 8) (C := RX8) (T := TX8) (N := 23) (t := 30) (i := 0) hx hb hts fi_X8_readsWord_X8 hown hK hw (by decide) (by decide) rfl rfl 14 (by decide) (hts (.fieldLink RX8 28 "WrongWordModel" "draft" "[I") ow_X8_readsWord_28) rfl dX8_readsWord_155 ?_
              refine lv_iload_n hx hb dX8_readsWord_158 rfl (lv_at hl 3 rfl) ?_
              refine lv_iconst (v := 2) hx hb dX8_readsWord_159 (by decide) ?_
              refine lv_iadd hx hb dX8_readsWord_160 ?_
              refine lv_iload hx hb dX8_readsWord_161 (lv_at hl 0 rfl) ?_
              have hb300 : ¬ (x224 + 2 < 0 ∨ 65 ≤ Int32.toNatClampNeg (x224 + 2)) := fun q => hs (hF.trans (if_pos q))
              have hF := hF.trans (if_neg hb300)
              refine km_iast (t := 37) (i := 0) (n := 65) hx hb hK hw (by decide) (by decide) (fun _ => rfl) hb300 dX8_readsWord_163 (fun H locs hw => ?_)
              obtain ⟨v301, ev301⟩ : ∃ z, z = up3 v299 37 0 (Int32.toNatClampNeg (x224 + 2)) (r272 - 97) := ⟨_, rfl⟩
              rw [← ev301] at hw
              have hF := hF.trans (kb_some (congrArg some ev301.symm) _)
              refine lv_aload_n hx hb dX8_readsWord_164 rfl (lv_at hl 4 rfl) ?_
              refine km_get (ci := 8) (C := RX8) (T := TX8) (N := 23) (t := 30) (i := 0) hx hb hts fi_X8_readsWord_X8 hown hK hw (by decide) (by decide) rfl rfl 14 (by decide) (hts (.fieldLink RX8 28 "WrongWordModel" "draft" "[I") ow_X8_readsWord_28) rfl dX8_readsWord_165 ?_
              refine lv_iconst (v := 3) hx hb dX8_readsWord_168 (by decide) ?_
              refine lv_dup2_11 hx hb dX8_readsWord_169 rfl rfl ?_
              refine km_iald (t := 37) (i := 0) hx hb hK hw (by decide) (by decide) rfl (by unfold vp_in; decide) dX8_readsWord_170 ?_
              refine lv_iconst (v := 1) hx hb dX8_readsWord_171 (by decide) ?_
              refine lv_iadd hx hb dX8_readsWord_172 ?_
              refine km_iast (t := 37) (i := 0) (n := 65) hx hb hK hw (by decide) (by decide) (fun _ => rfl) (by unfold vp_in; decide) dX8_readsWord_173 (fun H locs hw => ?_)
              obtain ⟨v302, ev302⟩ : ∃ z, z = up3 v301 37 0 (Int32.toNatClampNeg 3) ((v301 37 0 (Int32.toNatClampNeg 3)) + 1) := ⟨_, rfl⟩
              rw [← ev302] at hw
              have hF := hF.trans (kb_some (congrArg some ev302.symm) _)
              exact hret _ _ _ _ _ hw dX8_readsWord_174 hF
      · skip
        have hF := hF.trans (if_neg c234)
        refine lv_aload_n hx hb dX8_readsWord_66 rfl (lv_at hl 3 rfl) ?_
        refine km_get (ci := 8) (C := RX8) (T := TX8) (N := 23) (t := 30) (i := 0) hx hb hts fi_X8_readsWord_X8 hown hK hw (by decide) (by decide) rfl rfl 11 (by decide) (hts (.fieldLink RX8 98 "WrongWordModel" "token" "I") ow_X8_readsWord_98) rfl dX8_readsWord_67 ?_
        refine lv_iconst (v := 1) hx hb dX8_readsWord_70 (by decide) ?_
        refine lv_icmp_eq (tgt := 81) hx hb dX8_readsWord_71 (by decide) (fun c303 => ?_) (fun c303 => ?_)
        · skip
          have hF := hF.trans (if_pos c303)
          refine lv_aload_n hx hb dX8_readsWord_81 rfl (lv_at hl 3 rfl) ?_
          refine lv_aload_n hx hb dX8_readsWord_82 rfl (lv_at hl 3 rfl) ?_
          refine lv_iload_n hx hb dX8_readsWord_83 rfl (lv_at hl 1 rfl) ?_
          refine lv_iload_n hx hb dX8_readsWord_84 rfl (lv_at hl 0 rfl) ?_
          refine lv_aload_n hx hb dX8_readsWord_85 rfl (lv_at hl 3 rfl) ?_
          refine km_get (ci := 8) (C := RX8) (T := TX8) (N := 23) (t := 30) (i := 0) hx hb hts fi_X8_readsWord_X8 hown hK hw (by decide) (by decide) rfl rfl 12 (by decide) (hts (.fieldLink RX8 95 "WrongWordModel" "value" "I") ow_X8_readsWord_95) rfl dX8_readsWord_86 ?_
          refine lv_bipush (v := 97) hx hb dX8_readsWord_89 (by decide) ?_
          refine lv_isub hx hb dX8_readsWord_91 ?_
          have hs304 : g_X8_isTold v230 r226 r229 ((v230 30 0 12) - 97) ≠ none := fun q => hs (hF.trans (kb_n q _))
          refine km_cI (As := [.int r226, .int r229, .int ((v230 30 0 12) - 97)]) (rest := [.ref (Z.1 30 0)]) (n := 3) (q := (RX8, TX8, 23)) (ci := 8) (t := 30) (i := 0) ⟨hx, hb, hml, hown, hts⟩ (d_X8_isTold l E Z v230 r226 r229 ((v230 30 0 12) - 97) hs304) gX8_readsWord_X8_isTold rfl hV_X8_isTold ⟨Nat.le_of_ble_eq_true rfl, Nat.le_of_ble_eq_true rfl⟩ hK hw (by decide) (by decide) rfl rfl rfl hl.1 rfl (Nat.le_of_ble_eq_true rfl) dX8_readsWord_92 rfl rfl (fun r305 v306 H locs hp hw => ?_)
          obtain ⟨hp, hzr305⟩ := hp
          obtain ⟨hp, rfl⟩ := hp
          have hF := hF.trans (kb_some hp _)
          refine lv_if_ne (tgt := 102) hx hb dX8_readsWord_95 (by decide) (fun c307 => ?_) (fun c307 => ?_)
          · skip
            have hF := hF.trans (if_neg c307)
            refine lv_iconst (v := 0) hx hb dX8_readsWord_102 (by decide) ?_
            refine lv_iconst (v := 2) hx hb dX8_readsWord_103 (by decide) ?_
            have hs308 : g_X8_takes v230 0 2 ≠ none := fun q => hs (hF.trans (kb2_n q _))
            refine km_cI (As := [.int 0, .int 2]) (rest := []) (n := 2) (q := (RX8, TX8, 23)) (ci := 8) (t := 30) (i := 0) ⟨hx, hb, hml, hown, hts⟩ (d_X8_takes l E Z v230 0 2 hs308) gX8_readsWord_X8_takes rfl hV_X8_takes ⟨Nat.le_of_ble_eq_true rfl, Nat.le_of_ble_eq_true rfl⟩ hK hw (by decide) (by decide) rfl rfl rfl hl.1 rfl (Nat.le_of_ble_eq_true rfl) dX8_readsWord_104 rfl rfl (fun r309 v310 H locs hp hw => ?_)
            have hF := hF.trans (kb2_some hp _)
            refine lv_bipush (v := 97) hx hb dX8_readsWord_107 (by decide) ?_
            refine lv_isub hx hb dX8_readsWord_109 ?_
            refine lv_istore (lv' := [(4, .int (r309 - 97)), (3, .int r229), (2, .int r226), (1, .int x224), (0, .ref (Z.1 30 0))]) hx hb dX8_readsWord_110 hl (by decide) rfl (fun ls hl => ?_)
            refine lv_aload_n hx hb dX8_readsWord_112 rfl (lv_at hl 4 rfl) ?_
            refine lv_aload_n hx hb dX8_readsWord_113 rfl (lv_at hl 4 rfl) ?_
            refine km_get (ci := 8) (C := RX8) (T := TX8) (N := 23) (t := 30) (i := 0) hx hb hts fi_X8_readsWord_X8 hown hK hw (by decide) (by decide) rfl rfl 11 (by decide) (hts (.fieldLink RX8 98 "WrongWordModel" "token" "I") ow_X8_readsWord_98) rfl dX8_readsWord_114 ?_
            refine lv_iconst (v := 4) hx hb dX8_readsWord_117 (by decide) ?_
            refine lv_icmp_ne (tgt := 125) hx hb dX8_readsWord_118 (by decide) (fun c311 => ?_) (fun c311 => ?_)
            · skip
              have hF := hF.trans (if_neg c311)
              refine lv_iconst (v := 0) hx hb dX8_readsWord_125 (by decide) ?_
              refine lv_iconst (v := 1) hx hb dX8_readsWord_126 (by decide) ?_
              have hs312 : g_X8_takes v310 0 1 ≠ none := fun q => hs (hF.trans (kb2_n q _))
              refine km_cI (As := [.int 0, .int 1]) (rest := []) (n := 2) (q := (RX8, TX8, 23)) (ci := 8) (t := 30) (i := 0) ⟨hx, hb, hml, hown, hts⟩ (d_X8_takes l E Z v310 0 1 hs312) gX8_readsWord_X8_takes rfl hV_X8_takes ⟨Nat.le_of_ble_eq_true rfl, Nat.le_of_ble_eq_true rfl⟩ hK hw (by decide) (by decide) rfl rfl rfl hl.1 rfl (Nat.le_of_ble_eq_true rfl) dX8_readsWord_127 rfl rfl (fun r313 v314 H locs hp hw => ?_)
              have hF := hF.trans (kb2_some hp _)
              refine lv_pop hx hb dX8_readsWord_130 rfl ?_
              refine lv_aload_n hx hb dX8_readsWord_131 rfl (lv_at hl 4 rfl) ?_
              have hs315 : g_X8_isWell v314 ≠ none := fun q => hs (hF.trans (kb_n q _))
              refine km_cI (As := []) (rest := []) (n := 0) (q := (RX8, TX8, 23)) (ci := 8) (t := 30) (i := 0) ⟨hx, hb, hml, hown, hts⟩ (d_X8_isWell l E Z v314  hs315) gX8_readsWord_X8_isWell rfl hV_X8_isWell ⟨Nat.le_of_ble_eq_true rfl, Nat.le_of_ble_eq_true rfl⟩ hK hw (by decide) (by decide) rfl rfl rfl hl.1 rfl (Nat.le_of_ble_eq_true rfl) dX8_readsWord_132 rfl rfl (fun r316 v317 H locs hp hw => ?_)
              obtain ⟨hp, hzr316⟩ := hp
              obtain ⟨hp, rfl⟩ := hp
              have hF := hF.trans (kb_some hp _)
              refine lv_if_eq (tgt := 174) hx hb dX8_readsWord_135 (by decide) (fun c318 => ?_) (fun c318 => ?_)
              · skip
                have hF := hF.trans (if_pos c318)
                exact hret _ _ _ _ _ hw dX8_readsWord_174 hF
              · skip
                have hF := hF.trans (if_neg c318)
                refine lv_aload_n hx hb dX8_readsWord_138 rfl (lv_at hl 4 rfl) ?_
                refine km_get (ci := 8) (C := RX8) (T := TX8) (N := 23) (t := 30) (i := 0) hx hb hts fi_X8_readsWord_X8 hown hK hw (by decide) (by decide) rfl rfl 14 (by decide) (hts (.fieldLink RX8 28 "WrongWordModel" "draft" "[I") ow_X8_readsWord_28) rfl dX8_readsWord_139 ?_
                refine lv_iload_n hx hb dX8_readsWord_142 rfl (lv_at hl 3 rfl) ?_
                refine lv_iload_n hx hb dX8_readsWord_143 rfl (lv_at hl 2 rfl) ?_
                have hb319 : ¬ (x224 < 0 ∨ 65 ≤ Int32.toNatClampNeg x224) := fun q => hs (hF.trans (if_pos q))
                have hF := hF.trans (if_neg hb319)
                refine km_iast (t := 37) (i := 0) (n := 65) hx hb hK hw (by decide) (by decide) (fun _ => rfl) hb319 dX8_readsWord_144 (fun H locs hw => ?_)
                obtain ⟨v320, ev320⟩ : ∃ z, z = up3 v314 37 0 (Int32.toNatClampNeg x224) r226 := ⟨_, rfl⟩
                rw [← ev320] at hw
                have hF := hF.trans (kb_some (congrArg some ev320.symm) _)
                refine lv_aload_n hx hb dX8_readsWord_145 rfl (lv_at hl 4 rfl) ?_
                refine km_get (ci := 8) (C := RX8) (T := TX8) (N := 23) (t := 30) (i := 0) hx hb hts fi_X8_readsWord_X8 hown hK hw (by decide) (by decide) rfl rfl 14 (by decide) (hts (.fieldLink RX8 28 "WrongWordModel" "draft" "[I") ow_X8_readsWord_28) rfl dX8_readsWord_146 ?_
                refine lv_iload_n hx hb dX8_readsWord_149 rfl (lv_at hl 3 rfl) ?_
                refine lv_iconst (v := 1) hx hb dX8_readsWord_150 (by decide) ?_
                refine lv_iadd hx hb dX8_readsWord_151 ?_
                refine lv_iload_n hx hb dX8_readsWord_152 rfl (lv_at hl 1 rfl) ?_
                have hb321 : ¬ (x224 + 1 < 0 ∨ 65 ≤ Int32.toNatClampNeg (x224 + 1)) := fun q => hs (hF.trans (if_pos q))
                have hF := hF.trans (if_neg hb321)
                refine km_iast (t := 37) (i := 0) (n := 65) hx hb hK hw (by decide) (by decide) (fun _ => rfl) hb321 dX8_readsWord_153 (fun H locs hw => ?_)
                obtain ⟨v322, ev322⟩ : ∃ z, z = up3 v320 37 0 (Int32.toNatClampNeg (x224 + 1)) r229 := ⟨_, rfl⟩
                rw [← ev322] at hw
                have hF := hF.trans (kb_some (congrArg some ev322.symm) _)
                refine lv_aload_n hx hb dX8_readsWord_154 rfl (lv_at hl 4 rfl) ?_
                refine km_get (ci := 8) (C := RX8) (T := TX8) (N := 23) (t := 30) (i := 0) hx hb hts fi_X8_readsWord_X8 hown hK hw (by decide) (by decide) rfl rfl 14 (by decide) (hts (.fieldLink RX8 28 "WrongWordModel" "draft" "[I") ow_X8_readsWord_28) rfl dX8_readsWord_155 ?_
                refine lv_iload_n hx hb dX8_readsWord_158 rfl (lv_at hl 3 rfl) ?_
                refine lv_iconst (v := 2) hx hb dX8_readsWord_159 (by decide) ?_
                refine lv_iadd hx hb dX8_readsWord_160 ?_
                refine lv_iload hx hb dX8_readsWord_161 (lv_at hl 0 rfl) ?_
                have hb323 : ¬ (x224 + 2 < 0 ∨ 65 ≤ Int32.toNatClampNeg (x224 + 2)) := fun q => hs (hF.trans (if_pos q))
                have hF := hF.trans (if_neg hb323)
                refine km_iast (t := 37) (i := 0) (n := 65) hx hb hK hw (by decide) (by decide) (fun _ => rfl) hb323 dX8_readsWord_163 (fun H locs hw => ?_)
                obtain ⟨v324, ev324⟩ : ∃ z, z = up3 v322 37 0 (Int32.toNatClampNeg (x224 + 2)) (r309 - 97) := ⟨_, rfl⟩
                rw [← ev324] at hw
                have hF := hF.trans (kb_some (congrArg some ev324.symm) _)
                refine lv_aload_n hx hb dX8_readsWord_164 rfl (lv_at hl 4 rfl) ?_
                refine km_get (ci := 8) (C := RX8) (T := TX8) (N := 23) (t := 30) (i := 0) hx hb hts fi_X8_readsWord_X8 hown hK hw (by decide) (by decide) rfl rfl 14 (by decide) (hts (.fieldLink RX8 28 "WrongWordModel" "draft" "[I") ow_X8_readsWord_28) rfl dX8_readsWord_165 ?_
                refine lv_iconst (v := 3) hx hb dX8_readsWord_168 (by decide) ?_
                refine lv_dup2_11 hx hb dX8_readsWord_169 rfl rfl ?_
                refine km_iald (t := 37) (i := 0) hx hb hK hw (by decide) (by decide) rfl (by unfold vp_in; decide) dX8_readsWord_170 ?_
                refine lv_iconst (v := 1) hx hb dX8_readsWord_171 (by decide) ?_
                refine lv_iadd hx hb dX8_readsWord_172 ?_
                refine km_iast (t := 37) (i := 0) (n := 65) hx hb hK hw (by decide) (by decide) (fun _ => rfl) (by unfold vp_in; decide) dX8_readsWord_173 (fun H locs hw => ?_)
                obtain ⟨v325, ev325⟩ : ∃ z, z = up3 v324 37 0 (Int32.toNatClampNeg 3) ((v324 37 0 (Int32.toNatClampNeg 3)) + 1) := ⟨_, rfl⟩
                rw [← ev325] at hw
                have hF := hF.trans (kb_some (congrArg some ev325.symm) _)
                exact hret _ _ _ _ _ hw dX8_readsWord_174 hF
            · skip
              have hF := hF.trans (if_pos c311)
              refine lv_iconst (v := 1) hx hb dX8_readsWord_121 (by decide) ?_
              refine lv_goto (tgt := 126) hx hb dX8_readsWord_122 (by decide) ?_
              refine lv_iconst (v := 1) hx hb dX8_readsWord_126 (by decide) ?_
              have hs326 : g_X8_takes v310 1 1 ≠ none := fun q => hs (hF.trans (kb2_n q _))
              refine km_cI (As := [.int 1, .int 1]) (rest := []) (n := 2) (q := (RX8, TX8, 23)) (ci := 8) (t := 30) (i := 0) ⟨hx, hb, hml, hown, hts⟩ (d_X8_takes l E Z v310 1 1 hs326) gX8_readsWord_X8_takes rfl hV_X8_takes ⟨Nat.le_of_ble_eq_true rfl, Nat.le_of_ble_eq_true rfl⟩ hK hw (by decide) (by decide) rfl rfl rfl hl.1 rfl (Nat.le_of_ble_eq_true rfl) dX8_readsWord_127 rfl rfl (fun r327 v328 H locs hp hw => ?_)
              have hF := hF.trans (kb2_some hp _)
              refine lv_pop hx hb dX8_readsWord_130 rfl ?_
              refine lv_aload_n hx hb dX8_readsWord_131 rfl (lv_at hl 4 rfl) ?_
              have hs329 : g_X8_isWell v328 ≠ none := fun q => hs (hF.trans (kb_n q _))
              refine km_cI (As := []) (rest := []) (n := 0) (q := (RX8, TX8, 23)) (ci := 8) (t := 30) (i := 0) ⟨hx, hb, hml, hown, hts⟩ (d_X8_isWell l E Z v328  hs329) gX8_readsWord_X8_isWell rfl hV_X8_isWell ⟨Nat.le_of_ble_eq_true rfl, Nat.le_of_ble_eq_true rfl⟩ hK hw (by decide) (by decide) rfl rfl rfl hl.1 rfl (Nat.le_of_ble_eq_true rfl) dX8_readsWord_132 rfl rfl (fun r330 v331 H locs hp hw => ?_)
              obtain ⟨hp, hzr330⟩ := hp
              obtain ⟨hp, rfl⟩ := hp
              have hF := hF.trans (kb_some hp _)
              refine lv_if_eq (tgt := 174) hx hb dX8_readsWord_135 (by decide) (fun c332 => ?_) (fun c332 => ?_)
              · skip
                have hF := hF.trans (if_pos c332)
                exact hret _ _ _ _ _ hw dX8_readsWord_174 hF
              · skip
                have hF := hF.trans (if_neg c332)
                refine lv_aload_n hx hb dX8_readsWord_138 rfl (lv_at hl 4 rfl) ?_
                refine km_get (ci := 8) (C := RX8) (T := TX8) (N := 23) (t := 30) (i := 0) hx hb hts fi_X8_readsWord_X8 hown hK hw (by decide) (by decide) rfl rfl 14 (by decide) (hts (.fieldLink RX8 28 "WrongWordModel" "draft" "[I") ow_X8_readsWord_28) rfl dX8_readsWord_139 ?_
                refine lv_iload_n hx hb dX8_readsWord_142 rfl (lv_at hl 3 rfl) ?_
                refine lv_iload_n hx hb dX8_readsWord_143 rfl (lv_at hl 2 rfl) ?_
                have hb333 : ¬ (x224 < 0 ∨ 65 ≤ Int32.toNatClampNeg x224) := fun q => hs (hF.trans (if_pos q))
                have hF := hF.trans (if_neg hb333)
                refine km_iast (t := 37) (i := 0) (n := 65) hx hb hK hw (by decide) (by decide) (fun _ => rfl) hb333 dX8_readsWord_144 (fun H locs hw => ?_)
                obtain ⟨v334, ev334⟩ : ∃ z, z = up3 v328 37 0 (Int32.toNatClampNeg x224) r226 := ⟨_, rfl⟩
                rw [← ev334] at hw
                have hF := hF.trans (kb_some (congrArg some ev334.symm) _)
                refine lv_aload_n hx hb dX8_readsWord_145 rfl (lv_at hl 4 rfl) ?_
                refine km_get (ci := 8) (C := RX8) (T := TX8) (N := 23) (t := 30) (i := 0) hx hb hts fi_X8_readsWord_X8 hown hK hw (by decide) (by decide) rfl rfl 14 (by decide) (hts (.fieldLink RX8 28 "WrongWordModel" "draft" "[I") ow_X8_readsWord_28) rfl dX8_readsWord_146 ?_
                refine lv_iload_n hx hb dX8_readsWord_149 rfl (lv_at hl 3 rfl) ?_
                refine lv_iconst (v := 1) hx hb dX8_readsWord_150 (by decide) ?_
                refine lv_iadd hx hb dX8_readsWord_151 ?_
                refine lv_iload_n hx hb dX8_readsWord_152 rfl (lv_at hl 1 rfl) ?_
                have hb335 : ¬ (x224 + 1 < 0 ∨ 65 ≤ Int32.toNatClampNeg (x224 + 1)) := fun q => hs (hF.trans (if_pos q))
                have hF := hF.trans (if_neg hb335)
                refine km_iast (t := 37) (i := 0) (n := 65) hx hb hK hw (by decide) (by decide) (fun _ => rfl) hb335 dX8_readsWord_153 (fun H locs hw => ?_)
                obtain ⟨v336, ev336⟩ : ∃ z, z = up3 v334 37 0 (Int32.toNatClampNeg (x224 + 1)) r229 := ⟨_, rfl⟩
                rw [← ev336] at hw
                have hF := hF.trans (kb_some (congrArg some ev336.symm) _)
                refine lv_aload_n hx hb dX8_readsWord_154 rfl (lv_at hl 4 rfl) ?_
                refine km_get (ci := 8) (C := RX8) (T := TX8) (N := 23) (t := 30) (i := 0) hx hb hts fi_X8_readsWord_X8 hown hK hw (by decide) (by decide) rfl rfl 14 (by decide) (hts (.fieldLink RX8 28 "WrongWordModel" "draft" "[I") ow_X8_readsWord_28) rfl dX8_readsWord_155 ?_
                refine lv_iload_n hx hb dX8_readsWord_158 rfl (lv_at hl 3 rfl) ?_
                refine lv_iconst (v := 2) hx hb dX8_readsWord_159 (by decide) ?_
                refine lv_iadd hx hb dX8_readsWord_160 ?_
                refine lv_iload hx hb dX8_readsWord_161 (lv_at hl 0 rfl) ?_
                have hb337 : ¬ (x224 + 2 < 0 ∨ 65 ≤ Int32.toNatClampNeg (x224 + 2)) := fun q => hs (hF.trans (if_pos q))
                have hF := hF.trans (if_neg hb337)
                refine km_iast (t := 37) (i := 0) (n := 65) hx hb hK hw (by decide) (by decide) (fun _ => rfl) hb337 dX8_readsWord_163 (fun H locs hw => ?_)
                obtain ⟨v338, ev338⟩ : ∃ z, z = up3 v336 37 0 (Int32.toNatClampNeg (x224 + 2)) (r309 - 97) := ⟨_, rfl⟩
                rw [← ev338] at hw
                have hF := hF.trans (kb_some (congrArg some ev338.symm) _)
                refine lv_aload_n hx hb dX8_readsWord_164 rfl (lv_at hl 4 rfl) ?_
                refine km_get (ci := 8) (C := RX8) (T := TX8) (N := 23) (t := 30) (i := 0) hx hb hts fi_X8_readsWord_X8 hown hK hw (by decide) (by decide) rfl rfl 14 (by decide) (hts (.fieldLink RX8 28 "WrongWordModel" "draft" "[I") ow_X8_readsWord_28) rfl dX8_readsWord_165 ?_
                refine lv_iconst (v := 3) hx hb dX8_readsWord_168 (by decide) ?_
                refine lv_dup2_11 hx hb dX8_readsWord_169 rfl rfl ?_
                refine km_iald (t := 37) (i := 0) hx hb hK hw (by decide) (by decide) rfl (by unfold vp_in; decide) dX8_readsWord_170 ?_
                refine lv_iconst (v := 1) hx hb dX8_readsWord_171 (by decide) ?_
                refine lv_iadd hx hb dX8_readsWord_172 ?_
                refine km_iast (t := 37) (i := 0) (n := 65) hx hb hK hw (by decide) (by decide) (fun _ => rfl) (by unfold vp_in; decide) dX8_readsWord_173 (fun H locs hw => ?_)
                obtain ⟨v339, ev339⟩ : ∃ z, z = up3 v338 37 0 (Int32.toNatClampNeg 3) ((v338 37 0 (Int32.toNatClampNeg 3)) + 1) := ⟨_, rfl⟩
                rw [← ev339] at hw
                have hF := hF.trans (kb_some (congrArg some ev339.symm) _)
                exact hret _ _ _ _ _ hw dX8_readsWord_174 hF
          · skip
            have hF := hF.trans (if_pos c307)
            refine lv_iconst (v := 1) hx hb dX8_readsWord_98 (by decide) ?_
            refine lv_goto (tgt := 103) hx hb dX8_readsWord_99 (by decide) ?_
            refine lv_iconst (v := 2) hx hb dX8_readsWord_103 (by decide) ?_
            have hs340 : g_X8_takes v230 1 2 ≠ none := fun q => hs (hF.trans (kb2_n q _))
            refine km_cI (As := [.int 1, .int 2]) (rest := []) (n := 2) (q := (RX8, TX8, 23)) (ci := 8) (t := 30) (i := 0) ⟨hx, hb, hml, hown, hts⟩ (d_X8_takes l E Z v230 1 2 hs340) gX8_readsWord_X8_takes rfl hV_X8_takes ⟨Nat.le_of_ble_eq_true rfl, Nat.le_of_ble_eq_true rfl⟩ hK hw (by decide) (by decide) rfl rfl rfl hl.1 rfl (Nat.le_of_ble_eq_true rfl) dX8_readsWord_104 rfl rfl (fun r341 v342 H locs hp hw => ?_)
            have hF := hF.trans (kb2_some hp _)
            refine lv_bipush (v := 97) hx hb dX8_readsWord_107 (by decide) ?_
            refine lv_isub hx hb dX8_readsWord_109 ?_
            refine lv_istore (lv' := [(4, .int (r341 - 97)), (3, .int r229), (2, .int r226), (1, .int x224), (0, .ref (Z.1 30 0))]) hx hb dX8_readsWord_110 hl (by decide) rfl (fun ls hl => ?_)
            refine lv_aload_n hx hb dX8_readsWord_112 rfl (lv_at hl 4 rfl) ?_
            refine lv_aload_n hx hb dX8_readsWord_113 rfl (lv_at hl 4 rfl) ?_
            refine km_get (ci := 8) (C := RX8) (T := TX8) (N := 23) (t := 30) (i := 0) hx hb hts fi_X8_readsWord_X8 hown hK hw (by decide) (by decide) rfl rfl 11 (by decide) (hts (.fieldLink RX8 98 "WrongWordModel" "token" "I") ow_X8_readsWord_98) rfl dX8_readsWord_114 ?_
            refine lv_iconst (v := 4) hx hb dX8_readsWord_117 (by decide) ?_
            refine lv_icmp_ne (tgt := 125) hx hb dX8_readsWord_118 (by decide) (fun c343 => ?_) (fun c343 => ?_)
            · skip
              have hF := hF.trans (if_neg c343)
              refine lv_iconst (v := 0) hx hb dX8_readsWord_125 (by decide) ?_
              refine lv_iconst (v := 1) hx hb dX8_readsWord_126 (by decide) ?_
              have hs344 : g_X8_takes v342 0 1 ≠ none := fun q => hs (hF.trans (kb2_n q _))
              refine km_cI (As := [.int 0, .int 1]) (rest := []) (n := 2) (q := (RX8, TX8, 23)) (ci := 8) (t := 30) (i := 0) ⟨hx, hb, hml, hown, hts⟩ (d_X8_takes l E Z v342 0 1 hs344) gX8_readsWord_X8_takes rfl hV_X8_takes ⟨Nat.le_of_ble_eq_true rfl, Nat.le_of_ble_eq_true rfl⟩ hK hw (by decide) (by decide) rfl rfl rfl hl.1 rfl (Nat.le_of_ble_eq_true rfl) dX8_readsWord_127 rfl rfl (fun r345 v346 H locs hp hw => ?_)
              have hF := hF.trans (kb2_some hp _)
              refine lv_pop hx hb dX8_readsWord_130 rfl ?_
              refine lv_aload_n hx hb dX8_readsWord_131 rfl (lv_at hl 4 rfl) ?_
              have hs347 : g_X8_isWell v346 ≠ none := fun q => hs (hF.trans (kb_n q _))
              refine km_cI (As := []) (rest := []) (n := 0) (q := (RX8, TX8, 23)) (ci := 8) (t := 30) (i := 0) ⟨hx, hb, hml, hown, hts⟩ (d_X8_isWell l E Z v346  hs347) gX8_readsWord_X8_isWell rfl hV_X8_isWell ⟨Nat.le_of_ble_eq_true rfl, Nat.le_of_ble_eq_true rfl⟩ hK hw (by decide) (by decide) rfl rfl rfl hl.1 rfl (Nat.le_of_ble_eq_true rfl) dX8_readsWord_132 rfl rfl (fun r348 v349 H locs hp hw => ?_)
              obtain ⟨hp, hzr348⟩ := hp
              obtain ⟨hp, rfl⟩ := hp
              have hF := hF.trans (kb_some hp _)
              refine lv_if_eq (tgt := 174) hx hb dX8_readsWord_135 (by decide) (fun c350 => ?_) (fun c350 => ?_)
              · skip
                have hF := hF.trans (if_pos c350)
                exact hret _ _ _ _ _ hw dX8_readsWord_174 hF
              · skip
                have hF := hF.trans (if_neg c350)
                refine lv_aload_n hx hb dX8_readsWord_138 rfl (lv_at hl 4 rfl) ?_
                refine km_get (ci := 8) (C := RX8) (T := TX8) (N := 23) (t := 30) (i := 0) hx hb hts fi_X8_readsWord_X8 hown hK hw (by decide) (by decide) rfl rfl 14 (by decide) (hts (.fieldLink RX8 28 "WrongWordModel" "draft" "[I") ow_X8_readsWord_28) rfl dX8_readsWord_139 ?_
                refine lv_iload_n hx hb dX8_readsWord_142 rfl (lv_at hl 3 rfl) ?_
                refine lv_iload_n hx hb dX8_readsWord_143 rfl (lv_at hl 2 rfl) ?_
                have hb351 : ¬ (x224 < 0 ∨ 65 ≤ Int32.toNatClampNeg x224) := fun q => hs (hF.trans (if_pos q))
                have hF := hF.trans (if_neg hb351)
                refine km_iast (t := 37) (i := 0) (n := 65) hx hb hK hw (by decide) (by decide) (fun _ => rfl) hb351 dX8_readsWord_144 (fun H locs hw => ?_)
                obtain ⟨v352, ev352⟩ : ∃ z, z = up3 v346 37 0 (Int32.toNatClampNeg x224) r226 := ⟨_, rfl⟩
                rw [← ev352] at hw
                have hF := hF.trans (kb_some (congrArg some ev352.symm) _)
                refine lv_aload_n hx hb dX8_readsWord_145 rfl (lv_at hl 4 rfl) ?_
                refine km_get (ci := 8) (C := RX8) (T := TX8) (N := 23) (t := 30) (i := 0) hx hb hts fi_X8_readsWord_X8 hown hK hw (by decide) (by decide) rfl rfl 14 (by decide) (hts (.fieldLink RX8 28 "WrongWordModel" "draft" "[I") ow_X8_readsWord_28) rfl dX8_readsWord_146 ?_
                refine lv_iload_n hx hb dX8_readsWord_149 rfl (lv_at hl 3 rfl) ?_
                refine lv_iconst (v := 1) hx hb dX8_readsWord_150 (by decide) ?_
                refine lv_iadd hx hb dX8_readsWord_151 ?_
                refine lv_iload_n hx hb dX8_readsWord_152 rfl (lv_at hl 1 rfl) ?_
                have hb353 : ¬ (x224 + 1 < 0 ∨ 65 ≤ Int32.toNatClampNeg (x224 + 1)) := fun q => hs (hF.trans (if_pos q))
                have hF := hF.trans (if_neg hb353)
                refine km_iast (t := 37) (i := 0) (n := 65) hx hb hK hw (by decide) (by decide) (fun _ => rfl) hb353 dX8_readsWord_153 (fun H locs hw => ?_)
                obtain ⟨v354, ev354⟩ : ∃ z, z = up3 v352 37 0 (Int32.toNatClampNeg (x224 + 1)) r229 := ⟨_, rfl⟩
                rw [← ev354] at hw
                have hF := hF.trans (kb_some (congrArg some ev354.symm) _)
                refine lv_aload_n hx hb dX8_readsWord_154 rfl (lv_at hl 4 rfl) ?_
                refine km_get (ci := 8) (C := RX8) (T := TX8) (N := 23) (t := 30) (i := 0) hx hb hts fi_X8_readsWord_X8 hown hK hw (by decide) (by decide) rfl rfl 14 (by decide) (hts (.fieldLink RX8 28 "WrongWordModel" "draft" "[I") ow_X8_readsWord_28) rfl dX8_readsWord_155 ?_
                refine lv_iload_n hx hb dX8_readsWord_158 rfl (lv_at hl 3 rfl) ?_
                refine lv_iconst (v := 2) hx hb dX8_readsWord_159 (by decide) ?_
                refine lv_iadd hx hb dX8_readsWord_160 ?_
                refine lv_iload hx hb dX8_readsWord_161 (lv_at hl 0 rfl) ?_
                have hb355 : ¬ (x224 + 2 < 0 ∨ 65 ≤ Int32.toNatClampNeg (x224 + 2)) := fun q => hs (hF.trans (if_pos q))
                have hF := hF.trans (if_neg hb355)
                refine km_iast (t := 37) (i := 0) (n := 65) hx hb hK hw (by decide) (by decide) (fun _ => rfl) hb355 dX8_readsWord_163 (fun H locs hw => ?_)
                obtain ⟨v356, ev356⟩ : ∃ z, z = up3 v354 37 0 (Int32.toNatClampNeg (x224 + 2)) (r341 - 97) := ⟨_, rfl⟩
                rw [← ev356] at hw
                have hF := hF.trans (kb_some (congrArg some ev356.symm) _)
                refine lv_aload_n hx hb dX8_readsWord_164 rfl (lv_at hl 4 rfl) ?_
                refine km_get (ci := 8) (C := RX8) (T := TX8) (N := 23) (t := 30) (i := 0) hx hb hts fi_X8_readsWord_X8 hown hK hw (by decide) (by decide) rfl rfl 14 (by decide) (hts (.fieldLink RX8 28 "WrongWordModel" "draft" "[I") ow_X8_readsWord_28) rfl dX8_readsWord_165 ?_
                refine lv_iconst (v := 3) hx hb dX8_readsWord_168 (by decide) ?_
                refine lv_dup2_11 hx hb dX8_readsWord_169 rfl rfl ?_
                refine km_iald (t := 37) (i := 0) hx hb hK hw (by decide) (by decide) rfl (by unfold vp_in; decide) dX8_readsWord_170 ?_
                refine lv_iconst (v := 1) hx hb dX8_readsWord_171 (by decide) ?_
                refine lv_iadd hx hb dX8_readsWord_172 ?_
                refine km_iast (t := 37) (i := 0) (n := 65) hx hb hK hw (by decide) (by decide) (fun _ => rfl) (by unfold vp_in; decide) dX8_readsWord_173 (fun H locs hw => ?_)
                obtain ⟨v357, ev357⟩ : ∃ z, z = up3 v356 37 0 (Int32.toNatClampNeg 3) ((v356 37 0 (Int32.toNatClampNeg 3)) + 1) := ⟨_, rfl⟩
                rw [← ev357] at hw
                have hF := hF.trans (kb_some (congrArg some ev357.symm) _)
                exact hret _ _ _ _ _ hw dX8_readsWord_174 hF
            · skip
              have hF := hF.trans (if_pos c343)
              refine lv_iconst (v := 1) hx hb dX8_readsWord_121 (by decide) ?_
              refine lv_goto (tgt := 126) hx hb dX8_readsWord_122 (by decide) ?_
              refine lv_iconst (v := 1) hx hb dX8_readsWord_126 (by decide) ?_
              have hs358 : g_X8_takes v342 1 1 ≠ none := fun q => hs (hF.trans (kb2_n q _))
              refine km_cI (As := [.int 1, .int 1]) (rest := []) (n := 2) (q := (RX8, TX8, 23)) (ci := 8) (t := 30) (i := 0) ⟨hx, hb, hml, hown, hts⟩ (d_X8_takes l E Z v342 1 1 hs358) gX8_readsWord_X8_takes rfl hV_X8_takes ⟨Nat.le_of_ble_eq_true rfl, Nat.le_of_ble_eq_true rfl⟩ hK hw (by decide) (by decide) rfl rfl rfl hl.1 rfl (Nat.le_of_ble_eq_true rfl) dX8_readsWord_127 rfl rfl (fun r359 v360 H locs hp hw => ?_)
              have hF := hF.trans (kb2_some hp _)
              refine lv_pop hx hb dX8_readsWord_130 rfl ?_
              refine lv_aload_n hx hb dX8_readsWord_131 rfl (lv_at hl 4 rfl) ?_
              have hs361 : g_X8_isWell v360 ≠ none := fun q => hs (hF.trans (kb_n q _))
              refine km_cI (As := []) (rest := []) (n := 0) (q := (RX8, TX8, 23)) (ci := 8) (t := 30) (i := 0) ⟨hx, hb, hml, hown, hts⟩ (d_X8_isWell l E Z v360  hs361) gX8_readsWord_X8_isWell rfl hV_X8_isWell ⟨Nat.le_of_ble_eq_true rfl, Nat.le_of_ble_eq_true rfl⟩ hK hw (by decide) (by decide) rfl rfl rfl hl.1 rfl (Nat.le_of_ble_eq_true rfl) dX8_readsWord_132 rfl rfl (fun r362 v363 H locs hp hw => ?_)
              obtain ⟨hp, hzr362⟩ := hp
              obtain ⟨hp, rfl⟩ := hp
              have hF := hF.trans (kb_some hp _)
              refine lv_if_eq (tgt := 174) hx hb dX8_readsWord_135 (by decide) (fun c364 => ?_) (fun c364 => ?_)
              · skip
                have hF := hF.trans (if_pos c364)
                exact hret _ _ _ _ _ hw dX8_readsWord_174 hF
              · skip
                have hF := hF.trans (if_neg c364)
                refine lv_aload_n hx hb dX8_readsWord_138 rfl (lv_at hl 4 rfl) ?_
                refine km_get (ci := 8) (C := RX8) (T := TX8) (N := 23) (t := 30) (i := 0) hx hb hts fi_X8_readsWord_X8 hown hK hw (by decide) (by decide) rfl rfl 14 (by decide) (hts (.fieldLink RX8 28 "WrongWordModel" "draft" "[I") ow_X8_readsWord_28) rfl dX8_readsWord_139 ?_
                refine lv_iload_n hx hb dX8_readsWord_142 rfl (lv_at hl 3 rfl) ?_
                refine lv_iload_n hx hb dX8_readsWord_143 rfl (lv_at hl 2 rfl) ?_
                have hb365 : ¬ (x224 < 0 ∨ 65 ≤ Int32.toNatClampNeg x224) := fun q => hs (hF.trans (if_pos q))
                have hF := hF.trans (if_neg hb365)
                refine km_iast (t := 37) (i := 0) (n := 65) hx hb hK hw (by decide) (by decide) (fun _ => rfl) hb365 dX8_readsWord_144 (fun H locs hw => ?_)
                obtain ⟨v366, ev366⟩ : ∃ z, z = up3 v360 37 0 (Int32.toNatClampNeg x224) r226 := ⟨_, rfl⟩
                rw [← ev366] at hw
                have hF := hF.trans (kb_some (congrArg some ev366.symm) _)
                refine lv_aload_n hx hb dX8_readsWord_145 rfl (lv_at hl 4 rfl) ?_
                refine km_get (ci := 8) (C := RX8) (T := TX8) (N := 23) (t := 30) (i := 0) hx hb hts fi_X8_readsWord_X8 hown hK hw (by decide) (by decide) rfl rfl 14 (by decide) (hts (.fieldLink RX8 28 "WrongWordModel" "draft" "[I") ow_X8_readsWord_28) rfl dX8_readsWord_146 ?_
                refine lv_iload_n hx hb dX8_readsWord_149 rfl (lv_at hl 3 rfl) ?_
                refine lv_iconst (v := 1) hx hb dX8_readsWord_150 (by decide) ?_
                refine lv_iadd hx hb dX8_readsWord_151 ?_
                refine lv_iload_n hx hb dX8_readsWord_152 rfl (lv_at hl 1 rfl) ?_
                have hb367 : ¬ (x224 + 1 < 0 ∨ 65 ≤ Int32.toNatClampNeg (x224 + 1)) := fun q => hs (hF.trans (if_pos q))
                have hF := hF.trans (if_neg hb367)
                refine km_iast (t := 37) (i := 0) (n := 65) hx hb hK hw (by decide) (by decide) (fun _ => rfl) hb367 dX8_readsWord_153 (fun H locs hw => ?_)
                obtain ⟨v368, ev368⟩ : ∃ z, z = up3 v366 37 0 (Int32.toNatClampNeg (x224 + 1)) r229 := ⟨_, rfl⟩
                rw [← ev368] at hw
                have hF := hF.trans (kb_some (congrArg some ev368.symm) _)
                refine lv_aload_n hx hb dX8_readsWord_154 rfl (lv_at hl 4 rfl) ?_
                refine km_get (ci := 8) (C := RX8) (T := TX8) (N := 23) (t := 30) (i := 0) hx hb hts fi_X8_readsWord_X8 hown hK hw (by decide) (by decide) rfl rfl 14 (by decide) (hts (.fieldLink RX8 28 "WrongWordModel" "draft" "[I") ow_X8_readsWord_28) rfl dX8_readsWord_155 ?_
                refine lv_iload_n hx hb dX8_readsWord_158 rfl (lv_at hl 3 rfl) ?_
                refine lv_iconst (v := 2) hx hb dX8_readsWord_159 (by decide) ?_
                refine lv_iadd hx hb dX8_readsWord_160 ?_
                refine lv_iload hx hb dX8_readsWord_161 (lv_at hl 0 rfl) ?_
                have hb369 : ¬ (x224 + 2 < 0 ∨ 65 ≤ Int32.toNatClampNeg (x224 + 2)) := fun q => hs (hF.trans (if_pos q))
                have hF := hF.trans (if_neg hb369)
                refine km_iast (t := 37) (i := 0) (n := 65) hx hb hK hw (by decide) (by decide) (fun _ => rfl) hb369 dX8_readsWord_163 (fun H locs hw => ?_)
                obtain ⟨v370, ev370⟩ : ∃ z, z = up3 v368 37 0 (Int32.toNatClampNeg (x224 + 2)) (r341 - 97) := ⟨_, rfl⟩
                rw [← ev370] at hw
                have hF := hF.trans (kb_some (congrArg some ev370.symm) _)
                refine lv_aload_n hx hb dX8_readsWord_164 rfl (lv_at hl 4 rfl) ?_
                refine km_get (ci := 8) (C := RX8) (T := TX8) (N := 23) (t := 30) (i := 0) hx hb hts fi_X8_readsWord_X8 hown hK hw (by decide) (by decide) rfl rfl 14 (by decide) (hts (.fieldLink RX8 28 "WrongWordModel" "draft" "[I") ow_X8_readsWord_28) rfl dX8_readsWord_165 ?_
                refine lv_iconst (v := 3) hx hb dX8_readsWord_168 (by decide) ?_
                refine lv_dup2_11 hx hb dX8_readsWord_169 rfl rfl ?_
                refine km_iald (t := 37) (i := 0) hx hb hK hw (by decide) (by decide) rfl (by unfold vp_in; decide) dX8_readsWord_170 ?_
                refine lv_iconst (v := 1) hx hb dX8_readsWord_171 (by decide) ?_
                refine lv_iadd hx hb dX8_readsWord_172 ?_
                refine km_iast (t := 37) (i := 0) (n := 65) hx hb hK hw (by decide) (by decide) (fun _ => rfl) (by unfold vp_in; decide) dX8_readsWord_173 (fun H locs hw => ?_)
                obtain ⟨v371, ev371⟩ : ∃ z, z = up3 v370 37 0 (Int32.toNatClampNeg 3) ((v370 37 0 (Int32.toNatClampNeg 3)) + 1) := ⟨_, rfl⟩
                rw [← ev371] at hw
                have hF := hF.trans (kb_some (congrArg some ev371.symm) _)
                exact hret _ _ _ _ _ hw dX8_readsWord_174 hF
        · skip
          have hF := hF.trans (if_neg c303)
          refine lv_aload_n hx hb dX8_readsWord_74 rfl (lv_at hl 3 rfl) ?_
          refine lv_iconst (v := 0) hx hb dX8_readsWord_75 (by decide) ?_
          refine lv_iconst (v := 1) hx hb dX8_readsWord_76 (by decide) ?_
          have hs372 : g_X8_takes v230 0 1 ≠ none := fun q => hs (hF.trans (kb2_n q _))
          refine km_cI (As := [.int 0, .int 1]) (rest := []) (n := 2) (q := (RX8, TX8, 23)) (ci := 8) (t := 30) (i := 0) ⟨hx, hb, hml, hown, hts⟩ (d_X8_takes l E Z v230 0 1 hs372) gX8_readsWord_X8_takes rfl hV_X8_takes ⟨Nat.le_of_ble_eq_true rfl, Nat.le_of_ble_eq_true rfl⟩ hK hw (by decide) (by decide) rfl rfl rfl hl.1 rfl (Nat.le_of_ble_eq_true rfl) dX8_readsWord_77 rfl rfl (fun r373 v374 H locs hp hw => ?_)
          have hF := hF.trans (kb2_some hp _)
          refine lv_pop hx hb dX8_readsWord_80 rfl ?_
          refine lv_aload_n hx hb dX8_readsWord_81 rfl (lv_at hl 3 rfl) ?_
          refine lv_aload_n hx hb dX8_readsWord_82 rfl (lv_at hl 3 rfl) ?_
          refine lv_iload_n hx hb dX8_readsWord_83 rfl (lv_at hl 1 rfl) ?_
          refine lv_iload_n hx hb dX8_readsWord_84 rfl (lv_at hl 0 rfl) ?_
          refine lv_aload_n hx hb dX8_readsWord_85 rfl (lv_at hl 3 rfl) ?_
          refine km_get (ci := 8) (C := RX8) (T := TX8) (N := 23) (t := 30) (i := 0) hx hb hts fi_X8_readsWord_X8 hown hK hw (by decide) (by decide) rfl rfl 12 (by decide) (hts (.fieldLink RX8 95 "WrongWordModel" "value" "I") ow_X8_readsWord_95) rfl dX8_readsWord_86 ?_
          refine lv_bipush (v := 97) hx hb dX8_readsWord_89 (by decide) ?_
          refine lv_isub hx hb dX8_readsWord_91 ?_
          have hs375 : g_X8_isTold v374 r226 r229 ((v374 30 0 12) - 97) ≠ none := fun q => hs (hF.trans (kb_n q _))
          refine km_cI (As := [.int r226, .int r229, .int ((v374 30 0 12) - 97)]) (rest := [.ref (Z.1 30 0)]) (n := 3) (q := (RX8, TX8, 23)) (ci := 8) (t := 30) (i := 0) ⟨hx, hb, hml, hown, hts⟩ (d_X8_isTold l E Z v374 r226 r229 ((v374 30 0 12) - 97) hs375) gX8_readsWord_X8_isTold rfl hV_X8_isTold ⟨Nat.le_of_ble_eq_true rfl, Nat.le_of_ble_eq_true rfl⟩ hK hw (by decide) (by decide) rfl rfl rfl hl.1 rfl (Nat.le_of_ble_eq_true rfl) dX8_readsWord_92 rfl rfl (fun r376 v377 H locs hp hw => ?_)
          obtain ⟨hp, hzr376⟩ := hp
          obtain ⟨hp, rfl⟩ := hp
          have hF := hF.trans (kb_some hp _)
          refine lv_if_ne (tgt := 102) hx hb dX8_readsWord_95 (by decide) (fun c378 => ?_) (fun c378 => ?_)
          · skip
            have hF := hF.trans (if_neg c378)
            refine lv_iconst (v := 0) hx hb dX8_readsWord_102 (by decide) ?_
            refine lv_iconst (v := 2) hx hb dX8_readsWord_103 (by decide) ?_
            have hs379 : g_X8_takes v374 0 2 ≠ none := fun q => hs (hF.trans (kb2_n q _))
            refine km_cI (As := [.int 0, .int 2]) (rest := []) (n := 2) (q := (RX8, TX8, 23)) (ci := 8) (t := 30) (i := 0) ⟨hx, hb, hml, hown, hts⟩ (d_X8_takes l E Z v374 0 2 hs379) gX8_readsWord_X8_takes rfl hV_X8_takes ⟨Nat.le_of_ble_eq_true rfl, Nat.le_of_ble_eq_true rfl⟩ hK hw (by decide) (by decide) rfl rfl rfl hl.1 rfl (Nat.le_of_ble_eq_true rfl) dX8_readsWord_104 rfl rfl (fun r380 v381 H locs hp hw => ?_)
            have hF := hF.trans (kb2_some hp _)
            refine lv_bipush (v := 97) hx hb dX8_readsWord_107 (by decide) ?_
            refine lv_isub hx hb dX8_readsWord_109 ?_
            refine lv_istore (lv' := [(4, .int (r380 - 97)), (3, .int r229), (2, .int r226), (1, .int x224), (0, .ref (Z.1 30 0))]) hx hb dX8_readsWord_110 hl (by decide) rfl (fun ls hl => ?_)
            refine lv_aload_n hx hb dX8_readsWord_112 rfl (lv_at hl 4 rfl) ?_
            refine lv_aload_n hx hb dX8_readsWord_113 rfl (lv_at hl 4 rfl) ?_
            refine km_get (ci := 8) (C := RX8) (T := TX8) (N := 23) (t := 30) (i := 0) hx hb hts fi_X8_readsWord_X8 hown hK hw (by decide) (by decide) rfl rfl 11 (by decide) (hts (.fieldLink RX8 98 "WrongWordModel" "token" "I") ow_X8_readsWord_98) rfl dX8_readsWord_114 ?_
            refine lv_iconst (v := 4) hx hb dX8_readsWord_117 (by decide) ?_
            refine lv_icmp_ne (tgt := 125) hx hb dX8_readsWord_118 (by decide) (fun c382 => ?_) (fun c382 => ?_)
            · skip
              have hF := hF.trans (if_neg c382)
              refine lv_iconst (v := 0) hx hb dX8_readsWord_125 (by decide) ?_
              refine lv_iconst (v := 1) hx hb dX8_readsWord_126 (by decide) ?_
              have hs383 : g_X8_takes v381 0 1 ≠ none := fun q => hs (hF.trans (kb2_n q _))
              refine km_cI (As := [.int 0, .int 1]) (rest := []) (n := 2) (q := (RX8, TX8, 23)) (ci := 8) (t := 30) (i := 0) ⟨hx, hb, hml, hown, hts⟩ (d_X8_takes l E Z v381 0 1 hs383) gX8_readsWord_X8_takes rfl hV_X8_takes ⟨Nat.le_of_ble_eq_true rfl, Nat.le_of_ble_eq_true rfl⟩ hK hw (by decide) (by decide) rfl rfl rfl hl.1 rfl (Nat.le_of_ble_eq_true rfl) dX8_readsWord_127 rfl rfl (fun r384 v385 H locs hp hw => ?_)
              have hF := hF.trans (kb2_some hp _)
              refine lv_pop hx hb dX8_readsWord_130 rfl ?_
              refine lv_aload_n hx hb dX8_readsWord_131 rfl (lv_at hl 4 rfl) ?_
              have hs386 : g_X8_isWell v385 ≠ none := fun q => hs (hF.trans (kb_n q _))
              refine km_cI (As := []) (rest := []) (n := 0) (q := (RX8, TX8, 23)) (ci := 8) (t := 30) (i := 0) ⟨hx, hb, hml, hown, hts⟩ (d_X8_isWell l E Z v385  hs386) gX8_readsWord_X8_isWell rfl hV_X8_isWell ⟨Nat.le_of_ble_eq_true rfl, Nat.le_of_ble_eq_true rfl⟩ hK hw (by decide) (by decide) rfl rfl rfl hl.1 rfl (Nat.le_of_ble_eq_true rfl) dX8_readsWord_132 rfl rfl (fun r387 v388 H locs hp hw => ?_)
              obtain ⟨hp, hzr387⟩ := hp
              obtain ⟨hp, rfl⟩ := hp
              have hF := hF.trans (kb_some hp _)
              refine lv_if_eq (tgt := 174) hx hb dX8_readsWord_135 (by decide) (fun c389 => ?_) (fun c389 => ?_)
              · skip
                have hF := hF.trans (if_pos c389)
                exact hret _ _ _ _ _ hw dX8_readsWord_174 hF
              · skip
                have hF := hF.trans (if_neg c389)
                refine lv_aload_n hx hb dX8_readsWord_138 rfl (lv_at hl 4 rfl) ?_
                refine km_get (ci := 8) (C := RX8) (T := TX8) (N := 23) (t := 30) (i := 0) hx hb hts fi_X8_readsWord_X8 hown hK hw (by decide) (by decide) rfl rfl 14 (by decide) (hts (.fieldLink RX8 28 "WrongWordModel" "draft" "[I") ow_X8_readsWord_28) rfl dX8_readsWord_139 ?_
                refine lv_iload_n hx hb dX8_readsWord_142 rfl (lv_at hl 3 rfl) ?_
                refine lv_iload_n hx hb dX8_readsWord_143 rfl (lv_at hl 2 rfl) ?_
                have hb390 : ¬ (x224 < 0 ∨ 65 ≤ Int32.toNatClampNeg x224) := fun q => hs (hF.trans (if_pos q))
                have hF := hF.trans (if_neg hb390)
                refine km_iast (t := 37) (i := 0) (n := 65) hx hb hK hw (by decide) (by decide) (fun _ => rfl) hb390 dX8_readsWord_144 (fun H locs hw => ?_)
                obtain ⟨v391, ev391⟩ : ∃ z, z = up3 v385 37 0 (Int32.toNatClampNeg x224) r226 := ⟨_, rfl⟩
                rw [← ev391] at hw
                have hF := hF.trans (kb_some (congrArg some ev391.symm) _)
                refine lv_aload_n hx hb dX8_readsWord_145 rfl (lv_at hl 4 rfl) ?_
                refine km_get (ci := 8) (C := RX8) (T := TX8) (N := 23) (t := 30) (i := 0) hx hb hts fi_X8_readsWord_X8 hown hK hw (by decide) (by decide) rfl rfl 14 (by decide) (hts (.fieldLink RX8 28 "WrongWordModel" "draft" "[I") ow_X8_readsWord_28) rfl dX8_readsWord_146 ?_
                refine lv_iload_n hx hb dX8_readsWord_149 rfl (lv_at hl 3 rfl) ?_
                refine lv_iconst (v := 1) hx hb dX8_readsWord_150 (by decide) ?_
                refine lv_iadd hx hb dX8_readsWord_151 ?_
                refine lv_iload_n hx hb dX8_readsWord_152 rfl (lv_at hl 1 rfl) ?_
                have hb392 : ¬ (x224 + 1 < 0 ∨ 65 ≤ Int32.toNatClampNeg (x224 + 1)) := fun q => hs (hF.trans (if_pos q))
                have hF := hF.trans (if_neg hb392)
                refine km_iast (t := 37) (i := 0) (n := 65) hx hb hK hw (by decide) (by decide) (fun _ => rfl) hb392 dX8_readsWord_153 (fun H locs hw => ?_)
                obtain ⟨v393, ev393⟩ : ∃ z, z = up3 v391 37 0 (Int32.toNatClampNeg (x224 + 1)) r229 := ⟨_, rfl⟩
                rw [← ev393] at hw
                have hF := hF.trans (kb_some (congrArg some ev393.symm) _)
                refine lv_aload_n hx hb dX8_readsWord_154 rfl (lv_at hl 4 rfl) ?_
                refine km_get (ci := 8) (C := RX8) (T := TX8) (N := 23) (t := 30) (i := 0) hx hb hts fi_X8_readsWord_X8 hown hK hw (by decide) (by decide) rfl rfl 14 (by decide) (hts (.fieldLink RX8 28 "WrongWordModel" "draft" "[I") ow_X8_readsWord_28) rfl dX8_readsWord_155 ?_
                refine lv_iload_n hx hb dX8_readsWord_158 rfl (lv_at hl 3 rfl) ?_
                refine lv_iconst (v := 2) hx hb dX8_readsWord_159 (by decide) ?_
                refine lv_iadd hx hb dX8_readsWord_160 ?_
                refine lv_iload hx hb dX8_readsWord_161 (lv_at hl 0 rfl) ?_
                have hb394 : ¬ (x224 + 2 < 0 ∨ 65 ≤ Int32.toNatClampNeg (x224 + 2)) := fun q => hs (hF.trans (if_pos q))
                have hF := hF.trans (if_neg hb394)
                refine km_iast (t := 37) (i := 0) (n := 65) hx hb hK hw (by decide) (by decide) (fun _ => rfl) hb394 dX8_readsWord_163 (fun H locs hw => ?_)
                obtain ⟨v395, ev395⟩ : ∃ z, z = up3 v393 37 0 (Int32.toNatClampNeg (x224 + 2)) (r380 - 97) := ⟨_, rfl⟩
                rw [← ev395] at hw
                have hF := hF.trans (kb_some (congrArg some ev395.symm) _)
                refine lv_aload_n hx hb dX8_readsWord_164 rfl (lv_at hl 4 rfl) ?_
                refine km_get (ci := 8) (C := RX8) (T := TX8) (N := 23) (t := 30) (i := 0) hx hb hts fi_X8_readsWord_X8 hown hK hw (by decide) (by decide) rfl rfl 14 (by decide) (hts (.fieldLink RX8 28 "WrongWordModel" "draft" "[I") ow_X8_readsWord_28) rfl dX8_readsWord_165 ?_
                refine lv_iconst (v := 3) hx hb dX8_readsWord_168 (by decide) ?_
                refine lv_dup2_11 hx hb dX8_readsWord_169 rfl rfl ?_
                refine km_iald (t := 37) (i := 0) hx hb hK hw (by decide) (by decide) rfl (by unfold vp_in; decide) dX8_readsWord_170 ?_
                refine lv_iconst (v := 1) hx hb dX8_readsWord_171 (by decide) ?_
                refine lv_iadd hx hb dX8_readsWord_172 ?_
                refine km_iast (t := 37) (i := 0) (n := 65) hx hb hK hw (by decide) (by decide) (fun _ => rfl) (by unfold vp_in; decide) dX8_readsWord_173 (fun H locs hw => ?_)
                obtain ⟨v396, ev396⟩ : ∃ z, z = up3 v395 37 0 (Int32.toNatClampNeg 3) ((v395 37 0 (Int32.toNatClampNeg 3)) + 1) := ⟨_, rfl⟩
                rw [← ev396] at hw
                have hF := hF.trans (kb_some (congrArg some ev396.symm) _)
                exact hret _ _ _ _ _ hw dX8_readsWord_174 hF
            · skip
              have hF := hF.trans (if_pos c382)
              refine lv_iconst (v := 1) hx hb dX8_readsWord_121 (by decide) ?_
              refine lv_goto (tgt := 126) hx hb dX8_readsWord_122 (by decide) ?_
              refine lv_iconst (v := 1) hx hb dX8_readsWord_126 (by decide) ?_
              have hs397 : g_X8_takes v381 1 1 ≠ none := fun q => hs (hF.trans (kb2_n q _))
              refine km_cI (As := [.int 1, .int 1]) (rest := []) (n := 2) (q := (RX8, TX8, 23)) (ci := 8) (t := 30) (i := 0) ⟨hx, hb, hml, hown, hts⟩ (d_X8_takes l E Z v381 1 1 hs397) gX8_readsWord_X8_takes rfl hV_X8_takes ⟨Nat.le_of_ble_eq_true rfl, Nat.le_of_ble_eq_true rfl⟩ hK hw (by decide) (by decide) rfl rfl rfl hl.1 rfl (Nat.le_of_ble_eq_true rfl) dX8_readsWord_127 rfl rfl (fun r398 v399 H locs hp hw => ?_)
              have hF := hF.trans (kb2_some hp _)
              refine lv_pop hx hb dX8_readsWord_130 rfl ?_
              refine lv_aload_n hx hb dX8_readsWord_131 rfl (lv_at hl 4 rfl) ?_
              have hs400 : g_X8_isWell v399 ≠ none := fun q => hs (hF.trans (kb_n q _))
              refine km_cI (As := []) (rest := []) (n := 0) (q := (RX8, TX8, 23)) (ci := 8) (t := 30) (i := 0) ⟨hx, hb, hml, hown, hts⟩ (d_X8_isWell l E Z v399  hs400) gX8_readsWord_X8_isWell rfl hV_X8_isWell ⟨Nat.le_of_ble_eq_true rfl, Nat.le_of_ble_eq_true rfl⟩ hK hw (by decide) (by decide) rfl rfl rfl hl.1 rfl (Nat.le_of_ble_eq_true rfl) dX8_readsWord_132 rfl rfl (fun r401 v402 H locs hp hw => ?_)
              obtain ⟨hp, hzr401⟩ := hp
              obtain ⟨hp, rfl⟩ := hp
              have hF := hF.trans (kb_some hp _)
              refine lv_if_eq (tgt := 174) hx hb dX8_readsWord_135 (by decide) (fun c403 => ?_) (fun c403 => ?_)
              · skip
                have hF := hF.trans (if_pos c403)
                exact hret _ _ _ _ _ hw dX8_readsWord_174 hF
              · skip
                have hF := hF.trans (if_neg c403)
                refine lv_aload_n hx hb dX8_readsWord_138 rfl (lv_at hl 4 rfl) ?_
                refine km_get (ci := 8) (C := RX8) (T := TX8) (N := 23) (t := 30) (i := 0) hx hb hts fi_X8_readsWord_X8 hown hK hw (by decide) (by decide) rfl rfl 14 (by decide) (hts (.fieldLink RX8 28 "WrongWordModel" "draft" "[I") ow_X8_readsWord_28) rfl dX8_readsWord_139 ?_
                refine lv_iload_n hx hb dX8_readsWord_142 rfl (lv_at hl 3 rfl) ?_
                refine lv_iload_n hx hb dX8_readsWord_143 rfl (lv_at hl 2 rfl) ?_
                have hb404 : ¬ (x224 < 0 ∨ 65 ≤ Int32.toNatClampNeg x224) := fun q => hs (hF.trans (if_pos q))
                have hF := hF.trans (if_neg hb404)
                refine km_iast (t := 37) (i := 0) (n := 65) hx hb hK hw (by decide) (by decide) (fun _ => rfl) hb404 dX8_readsWord_144 (fun H locs hw => ?_)
                obtain ⟨v405, ev405⟩ : ∃ z, z = up3 v399 37 0 (Int32.toNatClampNeg x224) r226 := ⟨_, rfl⟩
                rw [← ev405] at hw
                have hF := hF.trans (kb_some (congrArg some ev405.symm) _)
                refine lv_aload_n hx hb dX8_readsWord_145 rfl (lv_at hl 4 rfl) ?_
                refine km_get (ci := 8) (C := RX8) (T := TX8) (N := 23) (t := 30) (i := 0) hx hb hts fi_X8_readsWord_X8 hown hK hw (by decide) (by decide) rfl rfl 14 (by decide) (hts (.fieldLink RX8 28 "WrongWordModel" "draft" "[I") ow_X8_readsWord_28) rfl dX8_readsWord_146 ?_
                refine lv_iload_n hx hb dX8_readsWord_149 rfl (lv_at hl 3 rfl) ?_
                refine lv_iconst (v := 1) hx hb dX8_readsWord_150 (by decide) ?_
                refine lv_iadd hx hb dX8_readsWord_151 ?_
                refine lv_iload_n hx hb dX8_readsWord_152 rfl (lv_at hl 1 rfl) ?_
                have hb406 : ¬ (x224 + 1 < 0 ∨ 65 ≤ Int32.toNatClampNeg (x224 + 1)) := fun q => hs (hF.trans (if_pos q))
                have hF := hF.trans (if_neg hb406)
                refine km_iast (t := 37) (i := 0) (n := 65) hx hb hK hw (by decide) (by decide) (fun _ => rfl) hb406 dX8_readsWord_153 (fun H locs hw => ?_)
                obtain ⟨v407, ev407⟩ : ∃ z, z = up3 v405 37 0 (Int32.toNatClampNeg (x224 + 1)) r229 := ⟨_, rfl⟩
                rw [← ev407] at hw
                have hF := hF.trans (kb_some (congrArg some ev407.symm) _)
                refine lv_aload_n hx hb dX8_readsWord_154 rfl (lv_at hl 4 rfl) ?_
                refine km_get (ci := 8) (C := RX8) (T := TX8) (N := 23) (t := 30) (i := 0) hx hb hts fi_X8_readsWord_X8 hown hK hw (by decide) (by decide) rfl rfl 14 (by decide) (hts (.fieldLink RX8 28 "WrongWordModel" "draft" "[I") ow_X8_readsWord_28) rfl dX8_readsWord_155 ?_
                refine lv_iload_n hx hb dX8_readsWord_158 rfl (lv_at hl 3 rfl) ?_
                refine lv_iconst (v := 2) hx hb dX8_readsWord_159 (by decide) ?_
                refine lv_iadd hx hb dX8_readsWord_160 ?_
                refine lv_iload hx hb dX8_readsWord_161 (lv_at hl 0 rfl) ?_
                have hb408 : ¬ (x224 + 2 < 0 ∨ 65 ≤ Int32.toNatClampNeg (x224 + 2)) := fun q => hs (hF.trans (if_pos q))
                have hF := hF.trans (if_neg hb408)
                refine km_iast (t := 37) (i := 0) (n := 65) hx hb hK hw (by decide) (by decide) (fun _ => rfl) hb408 dX8_readsWord_163 (fun H locs hw => ?_)
                obtain ⟨v409, ev409⟩ : ∃ z, z = up3 v407 37 0 (Int32.toNatClampNeg (x224 + 2)) (r380 - 97) := ⟨_, rfl⟩
                rw [← ev409] at hw
                have hF := hF.trans (kb_some (congrArg some ev409.symm) _)
                refine lv_aload_n hx hb dX8_readsWord_164 rfl (lv_at hl 4 rfl) ?_
                refine km_get (ci := 8) (C := RX8) (T := TX8) (N := 23) (t := 30) (i := 0) hx hb hts fi_X8_readsWord_X8 hown hK hw (by decide) (by decide) rfl rfl 14 (by decide) (hts (.fieldLink RX8 28 "WrongWordModel" "draft" "[I") ow_X8_readsWord_28) rfl dX8_readsWord_165 ?_
                refine lv_iconst (v := 3) hx hb dX8_readsWord_168 (by decide) ?_
                refine lv_dup2_11 hx hb dX8_readsWord_169 rfl rfl ?_
                refine km_iald (t := 37) (i := 0) hx hb hK hw (by decide) (by decide) rfl (by unfold vp_in; decide) dX8_readsWord_170 ?_
                refine lv_iconst (v := 1) hx hb dX8_readsWord_171 (by decide) ?_
                refine lv_iadd hx hb dX8_readsWord_172 ?_
                refine km_iast (t := 37) (i := 0) (n := 65) hx hb hK hw (by decide) (by decide) (fun _ => rfl) (by unfold vp_in; decide) dX8_readsWord_173 (fun H locs hw => ?_)
                obtain ⟨v410, ev410⟩ : ∃ z, z = up3 v409 37 0 (Int32.toNatClampNeg 3) ((v409 37 0 (Int32.toNatClampNeg 3)) + 1) := ⟨_, rfl⟩
                rw [← ev410] at hw
                have hF := hF.trans (kb_some (congrArg some ev410.symm) _)
                exact hret _ _ _ _ _ hw dX8_readsWord_174 hF
          · skip
            have hF := hF.trans (if_pos c378)
            refine lv_iconst (v := 1) hx hb dX8_readsWord_98 (by decide) ?_
            refine lv_goto (tgt := 103) hx hb dX8_readsWord_99 (by decide) ?_
            refine lv_iconst (v := 2) hx hb dX8_readsWord_103 (by decide) ?_
            have hs411 : g_X8_takes v374 1 2 ≠ none := fun q => hs (hF.trans (kb2_n q _))
            refine km_cI (As := [.int 1, .int 2]) (rest := []) (n := 2) (q := (RX8, TX8, 23)) (ci := 8) (t := 30) (i := 0) ⟨hx, hb, hml, hown, hts⟩ (d_X8_takes l E Z v374 1 2 hs411) gX8_readsWord_X8_takes rfl hV_X8_takes ⟨Nat.le_of_ble_eq_true rfl, Nat.le_of_ble_eq_true rfl⟩ hK hw (by decide) (by decide) rfl rfl rfl hl.1 rfl (Nat.le_of_ble_eq_true rfl) dX8_readsWord_104 rfl rfl (fun r412 v413 H locs hp hw => ?_)
            have hF := hF.trans (kb2_some hp _)
            refine lv_bipush (v := 97) hx hb dX8_readsWord_107 (by decide) ?_
            refine lv_isub hx hb dX8_readsWord_109 ?_
            refine lv_istore (lv' := [(4, .int (r412 - 97)), (3, .int r229), (2, .int r226), (1, .int x224), (0, .ref (Z.1 30 0))]) hx hb dX8_readsWord_110 hl (by decide) rfl (fun ls hl => ?_)
            refine lv_aload_n hx hb dX8_readsWord_112 rfl (lv_at hl 4 rfl) ?_
            refine lv_aload_n hx hb dX8_readsWord_113 rfl (lv_at hl 4 rfl) ?_
            refine km_get (ci := 8) (C := RX8) (T := TX8) (N := 23) (t := 30) (i := 0) hx hb hts fi_X8_readsWord_X8 hown hK hw (by decide) (by decide) rfl rfl 11 (by decide) (hts (.fieldLink RX8 98 "WrongWordModel" "token" "I") ow_X8_readsWord_98) rfl dX8_readsWord_114 ?_
            refine lv_iconst (v := 4) hx hb dX8_readsWord_117 (by decide) ?_
            refine lv_icmp_ne (tgt := 125) hx hb dX8_readsWord_118 (by decide) (fun c414 => ?_) (fun c414 => ?_)
            · skip
              have hF := hF.trans (if_neg c414)
              refine lv_iconst (v := 0) hx hb dX8_readsWord_125 (by decide) ?_
              refine lv_iconst (v := 1) hx hb dX8_readsWord_126 (by decide) ?_
              have hs415 : g_X8_takes v413 0 1 ≠ none := fun q => hs (hF.trans (kb2_n q _))
              refine km_cI (As := [.int 0, .int 1]) (rest := []) (n := 2) (q := (RX8, TX8, 23)) (ci := 8) (t := 30) (i := 0) ⟨hx, hb, hml, hown, hts⟩ (d_X8_takes l E Z v413 0 1 hs415) gX8_readsWord_X8_takes rfl hV_X8_takes ⟨Nat.le_of_ble_eq_true rfl, Nat.le_of_ble_eq_true rfl⟩ hK hw (by decide) (by decide) rfl rfl rfl hl.1 rfl (Nat.le_of_ble_eq_true rfl) dX8_readsWord_127 rfl rfl (fun r416 v417 H locs hp hw => ?_)
              have hF := hF.trans (kb2_some hp _)
              refine lv_pop hx hb dX8_readsWord_130 rfl ?_
              refine lv_aload_n hx hb dX8_readsWord_131 rfl (lv_at hl 4 rfl) ?_
              have hs418 : g_X8_isWell v417 ≠ none := fun q => hs (hF.trans (kb_n q _))
              refine km_cI (As := []) (rest := []) (n := 0) (q := (RX8, TX8, 23)) (ci := 8) (t := 30) (i := 0) ⟨hx, hb, hml, hown, hts⟩ (d_X8_isWell l E Z v417  hs418) gX8_readsWord_X8_isWell rfl hV_X8_isWell ⟨Nat.le_of_ble_eq_true rfl, Nat.le_of_ble_eq_true rfl⟩ hK hw (by decide) (by decide) rfl rfl rfl hl.1 rfl (Nat.le_of_ble_eq_true rfl) dX8_readsWord_132 rfl rfl (fun r419 v420 H locs hp hw => ?_)
              obtain ⟨hp, hzr419⟩ := hp
              obtain ⟨hp, rfl⟩ := hp
              have hF := hF.trans (kb_some hp _)
              refine lv_if_eq (tgt := 174) hx hb dX8_readsWord_135 (by decide) (fun c421 => ?_) (fun c421 => ?_)
              · skip
                have hF := hF.trans (if_pos c421)
                exact hret _ _ _ _ _ hw dX8_readsWord_174 hF
              · skip
                have hF := hF.trans (if_neg c421)
                refine lv_aload_n hx hb dX8_readsWord_138 rfl (lv_at hl 4 rfl) ?_
                refine km_get (ci := 8) (C := RX8) (T := TX8) (N := 23) (t := 30) (i := 0) hx hb hts fi_X8_readsWord_X8 hown hK hw (by decide) (by decide) rfl rfl 14 (by decide) (hts (.fieldLink RX8 28 "WrongWordModel" "draft" "[I") ow_X8_readsWord_28) rfl dX8_readsWord_139 ?_
                refine lv_iload_n hx hb dX8_readsWord_142 rfl (lv_at hl 3 rfl) ?_
                refine lv_iload_n hx hb dX8_readsWord_143 rfl (lv_at hl 2 rfl) ?_
                have hb422 : ¬ (x224 < 0 ∨ 65 ≤ Int32.toNatClampNeg x224) := fun q => hs (hF.trans (if_pos q))
                have hF := hF.trans (if_neg hb422)
                refine km_iast (t := 37) (i := 0) (n := 65) hx hb hK hw (by decide) (by decide) (fun _ => rfl) hb422 dX8_readsWord_144 (fun H locs hw => ?_)
                obtain ⟨v423, ev423⟩ : ∃ z, z = up3 v417 37 0 (Int32.toNatClampNeg x224) r226 := ⟨_, rfl⟩
                rw [← ev423] at hw
                have hF := hF.trans (kb_some (congrArg some ev423.symm) _)
                refine lv_aload_n hx hb dX8_readsWord_145 rfl (lv_at hl 4 rfl) ?_
                refine km_get (ci := 8) (C := RX8) (T := TX8) (N := 23) (t := 30) (i := 0) hx hb hts fi_X8_readsWord_X8 hown hK hw (by decide) (by decide) rfl rfl 14 (by decide) (hts (.fieldLink RX8 28 "WrongWordModel" "draft" "[I") ow_X8_readsWord_28) rfl dX8_readsWord_146 ?_
                refine lv_iload_n hx hb dX8_readsWord_149 rfl (lv_at hl 3 rfl) ?_
                refine lv_iconst (v := 1) hx hb dX8_readsWord_150 (by decide) ?_
                refine lv_iadd hx hb dX8_readsWord_151 ?_
                refine lv_iload_n hx hb dX8_readsWord_152 rfl (lv_at hl 1 rfl) ?_
                have hb424 : ¬ (x224 + 1 < 0 ∨ 65 ≤ Int32.toNatClampNeg (x224 + 1)) := fun q => hs (hF.trans (if_pos q))
                have hF := hF.trans (if_neg hb424)
                refine km_iast (t := 37) (i := 0) (n := 65) hx hb hK hw (by decide) (by decide) (fun _ => rfl) hb424 dX8_readsWord_153 (fun H locs hw => ?_)
                obtain ⟨v425, ev425⟩ : ∃ z, z = up3 v423 37 0 (Int32.toNatClampNeg (x224 + 1)) r229 := ⟨_, rfl⟩
                rw [← ev425] at hw
                have hF := hF.trans (kb_some (congrArg some ev425.symm) _)
                refine lv_aload_n hx hb dX8_readsWord_154 rfl (lv_at hl 4 rfl) ?_
                refine km_get (ci := 8) (C := RX8) (T := TX8) (N := 23) (t := 30) (i := 0) hx hb hts fi_X8_readsWord_X8 hown hK hw (by decide) (by decide) rfl rfl 14 (by decide) (hts (.fieldLink RX8 28 "WrongWordModel" "draft" "[I") ow_X8_readsWord_28) rfl dX8_readsWord_155 ?_
                refine lv_iload_n hx hb dX8_readsWord_158 rfl (lv_at hl 3 rfl) ?_
                refine lv_iconst (v := 2) hx hb dX8_readsWord_159 (by decide) ?_
                refine lv_iadd hx hb dX8_readsWord_160 ?_
                refine lv_iload hx hb dX8_readsWord_161 (lv_at hl 0 rfl) ?_
                have hb426 : ¬ (x224 + 2 < 0 ∨ 65 ≤ Int32.toNatClampNeg (x224 + 2)) := fun q => hs (hF.trans (if_pos q))
                have hF := hF.trans (if_neg hb426)
                refine km_iast (t := 37) (i := 0) (n := 65) hx hb hK hw (by decide) (by decide) (fun _ => rfl) hb426 dX8_readsWord_163 (fun H locs hw => ?_)
                obtain ⟨v427, ev427⟩ : ∃ z, z = up3 v425 37 0 (Int32.toNatClampNeg (x224 + 2)) (r412 - 97) := ⟨_, rfl⟩
                rw [← ev427] at hw
                have hF := hF.trans (kb_some (congrArg some ev427.symm) _)
                refine lv_aload_n hx hb dX8_readsWord_164 rfl (lv_at hl 4 rfl) ?_
                refine km_get (ci := 8) (C := RX8) (T := TX8) (N := 23) (t := 30) (i := 0) hx hb hts fi_X8_readsWord_X8 hown hK hw (by decide) (by decide) rfl rfl 14 (by decide) (hts (.fieldLink RX8 28 "WrongWordModel" "draft" "[I") ow_X8_readsWord_28) rfl dX8_readsWord_165 ?_
                refine lv_iconst (v := 3) hx hb dX8_readsWord_168 (by decide) ?_
                refine lv_dup2_11 hx hb dX8_readsWord_169 rfl rfl ?_
                refine km_iald (t := 37) (i := 0) hx hb hK hw (by decide) (by decide) rfl (by unfold vp_in; decide) dX8_readsWord_170 ?_
                refine lv_iconst (v := 1) hx hb dX8_readsWord_171 (by decide) ?_
                refine lv_iadd hx hb dX8_readsWord_172 ?_
                refine km_iast (t := 37) (i := 0) (n := 65) hx hb hK hw (by decide) (by decide) (fun _ => rfl) (by unfold vp_in; decide) dX8_readsWord_173 (fun H locs hw => ?_)
                obtain ⟨v428, ev428⟩ : ∃ z, z = up3 v427 37 0 (Int32.toNatClampNeg 3) ((v427 37 0 (Int32.toNatClampNeg 3)) + 1) := ⟨_, rfl⟩
                rw [← ev428] at hw
                have hF := hF.trans (kb_some (congrArg some ev428.symm) _)
                exact hret _ _ _ _ _ hw dX8_readsWord_174 hF
            · skip
              have hF := hF.trans (if_pos c414)
              refine lv_iconst (v := 1) hx hb dX8_readsWord_121 (by decide) ?_
              refine lv_goto (tgt := 126) hx hb dX8_readsWord_122 (by decide) ?_
              refine lv_iconst (v := 1) hx hb dX8_readsWord_126 (by decide) ?_
              have hs429 : g_X8_takes v413 1 1 ≠ none := fun q => hs (hF.trans (kb2_n q _))
              refine km_cI (As := [.int 1, .int 1]) (rest := []) (n := 2) (q := (RX8, TX8, 23)) (ci := 8) (t := 30) (i := 0) ⟨hx, hb, hml, hown, hts⟩ (d_X8_takes l E Z v413 1 1 hs429) gX8_readsWord_X8_takes rfl hV_X8_takes ⟨Nat.le_of_ble_eq_true rfl, Nat.le_of_ble_eq_true rfl⟩ hK hw (by decide) (by decide) rfl rfl rfl hl.1 rfl (Nat.le_of_ble_eq_true rfl) dX8_readsWord_127 rfl rfl (fun r430 v431 H locs hp hw => ?_)
              have hF := hF.trans (kb2_some hp _)
              refine lv_pop hx hb dX8_readsWord_130 rfl ?_
              refine lv_aload_n hx hb dX8_readsWord_131 rfl (lv_at hl 4 rfl) ?_
              have hs432 : g_X8_isWell v431 ≠ none := fun q => hs (hF.trans (kb_n q _))
              refine km_cI (As := []) (rest := []) (n := 0) (q := (RX8, TX8, 23)) (ci := 8) (t := 30) (i := 0) ⟨hx, hb, hml, hown, hts⟩ (d_X8_isWell l E Z v431  hs432) gX8_readsWord_X8_isWell rfl hV_X8_isWell ⟨Nat.le_of_ble_eq_true rfl, Nat.le_of_ble_eq_true rfl⟩ hK hw (by decide) (by decide) rfl rfl rfl hl.1 rfl (Nat.le_of_ble_eq_true rfl) dX8_readsWord_132 rfl rfl (fun r433 v434 H locs hp hw => ?_)
              obtain ⟨hp, hzr433⟩ := hp
              obtain ⟨hp, rfl⟩ := hp
              have hF := hF.trans (kb_some hp _)
              refine lv_if_eq (tgt := 174) hx hb dX8_readsWord_135 (by decide) (fun c435 => ?_) (fun c435 => ?_)
              · skip
                have hF := hF.trans (if_pos c435)
                exact hret _ _ _ _ _ hw dX8_readsWord_174 hF
              · skip
                have hF := hF.trans (if_neg c435)
                refine lv_aload_n hx hb dX8_readsWord_138 rfl (lv_at hl 4 rfl) ?_
                refine km_get (ci := 8) (C := RX8) (T := TX8) (N := 23) (t := 30) (i := 0) hx hb hts fi_X8_readsWord_X8 hown hK hw (by decide) (by decide) rfl rfl 14 (by decide) (hts (.fieldLink RX8 28 "WrongWordModel" "draft" "[I") ow_X8_readsWord_28) rfl dX8_readsWord_139 ?_
                refine lv_iload_n hx hb dX8_readsWord_142 rfl (lv_at hl 3 rfl) ?_
                refine lv_iload_n hx hb dX8_readsWord_143 rfl (lv_at hl 2 rfl) ?_
                have hb436 : ¬ (x224 < 0 ∨ 65 ≤ Int32.toNatClampNeg x224) := fun q => hs (hF.trans (if_pos q))
                have hF := hF.trans (if_neg hb436)
                refine km_iast (t := 37) (i := 0) (n := 65) hx hb hK hw (by decide) (by decide) (fun _ => rfl) hb436 dX8_readsWord_144 (fun H locs hw => ?_)
                obtain ⟨v437, ev437⟩ : ∃ z, z = up3 v431 37 0 (Int32.toNatClampNeg x224) r226 := ⟨_, rfl⟩
                rw [← ev437] at hw
                have hF := hF.trans (kb_some (congrArg some ev437.symm) _)
                refine lv_aload_n hx hb dX8_readsWord_145 rfl (lv_at hl 4 rfl) ?_
                refine km_get (ci := 8) (C := RX8) (T := TX8) (N := 23) (t := 30) (i := 0) hx hb hts fi_X8_readsWord_X8 hown hK hw (by decide) (by decide) rfl rfl 14 (by decide) (hts (.fieldLink RX8 28 "WrongWordModel" "draft" "[I") ow_X8_readsWord_28) rfl dX8_readsWord_146 ?_
                refine lv_iload_n hx hb dX8_readsWord_149 rfl (lv_at hl 3 rfl) ?_
                refine lv_iconst (v := 1) hx hb dX8_readsWord_150 (by decide) ?_
                refine lv_iadd hx hb dX8_readsWord_151 ?_
                refine lv_iload_n hx hb dX8_readsWord_152 rfl (lv_at hl 1 rfl) ?_
                have hb438 : ¬ (x224 + 1 < 0 ∨ 65 ≤ Int32.toNatClampNeg (x224 + 1)) := fun q => hs (hF.trans (if_pos q))
                have hF := hF.trans (if_neg hb438)
                refine km_iast (t := 37) (i := 0) (n := 65) hx hb hK hw (by decide) (by decide) (fun _ => rfl) hb438 dX8_readsWord_153 (fun H locs hw => ?_)
                obtain ⟨v439, ev439⟩ : ∃ z, z = up3 v437 37 0 (Int32.toNatClampNeg (x224 + 1)) r229 := ⟨_, rfl⟩
                rw [← ev439] at hw
                have hF := hF.trans (kb_some (congrArg some ev439.symm) _)
                refine lv_aload_n hx hb dX8_readsWord_154 rfl (lv_at hl 4 rfl) ?_
                refine km_get (ci := 8) (C := RX8) (T := TX8) (N := 23) (t := 30) (i := 0) hx hb hts fi_X8_readsWord_X8 hown hK hw (by decide) (by decide) rfl rfl 14 (by decide) (hts (.fieldLink RX8 28 "WrongWordModel" "draft" "[I") ow_X8_readsWord_28) rfl dX8_readsWord_155 ?_
                refine lv_iload_n hx hb dX8_readsWord_158 rfl (lv_at hl 3 rfl) ?_
                refine lv_iconst (v := 2) hx hb dX8_readsWord_159 (by decide) ?_
                refine lv_iadd hx hb dX8_readsWord_160 ?_
                refine lv_iload hx hb dX8_readsWord_161 (lv_at hl 0 rfl) ?_
                have hb440 : ¬ (x224 + 2 < 0 ∨ 65 ≤ Int32.toNatClampNeg (x224 + 2)) := fun q => hs (hF.trans (if_pos q))
                have hF := hF.trans (if_neg hb440)
                refine km_iast (t := 37) (i := 0) (n := 65) hx hb hK hw (by decide) (by decide) (fun _ => rfl) hb440 dX8_readsWord_163 (fun H locs hw => ?_)
                obtain ⟨v441, ev441⟩ : ∃ z, z = up3 v439 37 0 (Int32.toNatClampNeg (x224 + 2)) (r412 - 97) := ⟨_, rfl⟩
                rw [← ev441] at hw
                have hF := hF.trans (kb_some (congrArg some ev441.symm) _)
                refine lv_aload_n hx hb dX8_readsWord_164 rfl (lv_at hl 4 rfl) ?_
                refine km_get (ci := 8) (C := RX8) (T := TX8) (N := 23) (t := 30) (i := 0) hx hb hts fi_X8_readsWord_X8 hown hK hw (by decide) (by decide) rfl rfl 14 (by decide) (hts (.fieldLink RX8 28 "WrongWordModel" "draft" "[I") ow_X8_readsWord_28) rfl dX8_readsWord_165 ?_
                refine lv_iconst (v := 3) hx hb dX8_readsWord_168 (by decide) ?_
                refine lv_dup2_11 hx hb dX8_readsWord_169 rfl rfl ?_
                refine km_iald (t := 37) (i := 0) hx hb hK hw (by decide) (by decide) rfl (by unfold vp_in; decide) dX8_readsWord_170 ?_
                refine lv_iconst (v := 1) hx hb dX8_readsWord_171 (by decide) ?_
                refine lv_iadd hx hb dX8_readsWord_172 ?_
                refine km_iast (t := 37) (i := 0) (n := 65) hx hb hK hw (by decide) (by decide) (fun _ => rfl) (by unfold vp_in; decide) dX8_readsWord_173 (fun H locs hw => ?_)
                obtain ⟨v442, ev442⟩ : ∃ z, z = up3 v441 37 0 (Int32.toNatClampNeg 3) ((v441 37 0 (Int32.toNatClampNeg 3)) + 1) := ⟨_, rfl⟩
                rw [← ev442] at hw
                have hF := hF.trans (kb_some (congrArg some ev442.symm) _)
                exact hret _ _ _ _ _ hw dX8_readsWord_174 hF
  · skip
    have hF := hF.trans (if_neg c1)
    refine lv_iconst (v := 1) hx hb dX8_readsWord_12 (by decide) ?_
    refine lv_goto (tgt := 17) hx hb dX8_readsWord_13 (by decide) ?_
    refine lv_iconst (v := 3) hx hb dX8_readsWord_17 (by decide) ?_
    have hs443 : g_X8_takes v 1 3 ≠ none := fun q => hs (hF.trans (kb2_n q _))
    refine km_cI (As := [.int 1, .int 3]) (rest := []) (n := 2) (q := (RX8, TX8, 23)) (ci := 8) (t := 30) (i := 0) ⟨hx, hb, hml, hown, hts⟩ (d_X8_takes l E Z v 1 3 hs443) gX8_readsWord_X8_takes rfl hV_X8_takes ⟨Nat.le_of_ble_eq_true rfl, Nat.le_of_ble_eq_true rfl⟩ hK hw (by decide) (by decide) rfl rfl rfl hl.1 rfl (Nat.le_of_ble_eq_true rfl) dX8_readsWord_18 rfl rfl (fun r444 v445 H locs hp hw => ?_)
    have hF := hF.trans (kb2_some hp _)
    refine lv_pop hx hb dX8_readsWord_21 rfl ?_
    refine lv_bipush (v := 8) hx hb dX8_readsWord_22 (by decide) ?_
    refine lv_iconst (v := 3) hx hb dX8_readsWord_24 (by decide) ?_
    refine lv_aload_n hx hb dX8_readsWord_25 rfl (lv_at hl 0 rfl) ?_
    refine km_get (ci := 8) (C := RX8) (T := TX8) (N := 23) (t := 30) (i := 0) hx hb hts fi_X8_readsWord_X8 hown hK hw (by decide) (by decide) rfl rfl 14 (by decide) (hts (.fieldLink RX8 28 "WrongWordModel" "draft" "[I") ow_X8_readsWord_28) rfl dX8_readsWord_26 ?_
    refine lv_iconst (v := 3) hx hb dX8_readsWord_29 (by decide) ?_
    refine km_iald (t := 37) (i := 0) hx hb hK hw (by decide) (by decide) rfl (by unfold vp_in; decide) dX8_readsWord_30 ?_
    refine lv_bipush (v := 6) hx hb dX8_readsWord_31 (by decide) ?_
    refine lv_icmp_ge (tgt := 45) hx hb dX8_readsWord_33 (by decide) (fun c446 => ?_) (fun c446 => ?_)
    · skip
      have hF := hF.trans (if_pos c446)
      refine lv_iconst (v := 0) hx hb dX8_readsWord_45 (by decide) ?_
      refine lv_imul hx hb dX8_readsWord_46 ?_
      refine lv_iadd hx hb dX8_readsWord_47 ?_
      refine lv_istore_n (lv' := [(1, .int ((8 : Int32) + ((3 : Int32) * 0))), (0, .ref (Z.1 30 0))]) hx hb dX8_readsWord_48 rfl hl (by decide) rfl (fun ls hl => ?_)
      refine lv_aload_n hx hb dX8_readsWord_49 rfl (lv_at hl 1 rfl) ?_
      have hs447 : g_X8_letterOf v445 ≠ none := fun q => hs (hF.trans (kb2_n q _))
      refine km_cI (As := []) (rest := []) (n := 0) (q := (RX8, TX8, 23)) (ci := 8) (t := 30) (i := 0) ⟨hx, hb, hml, hown, hts⟩ (d_X8_letterOf l E Z v445  hs447) gX8_readsWord_X8_letterOf rfl hV_X8_letterOf ⟨Nat.le_of_ble_eq_true rfl, Nat.le_of_ble_eq_true rfl⟩ hK hw (by decide) (by decide) rfl rfl rfl hl.1 rfl (Nat.le_of_ble_eq_true rfl) dX8_readsWord_50 rfl rfl (fun r448 v449 H locs hp hw => ?_)
      have hF := hF.trans (kb2_some hp _)
      refine lv_istore_n (lv' := [(2, .int r448), (1, .int ((8 : Int32) + ((3 : Int32) * 0))), (0, .ref (Z.1 30 0))]) hx hb dX8_readsWord_53 rfl hl (by decide) rfl (fun ls hl => ?_)
      refine lv_aload_n hx hb dX8_readsWord_54 rfl (lv_at hl 2 rfl) ?_
      have hs450 : g_X8_letterOf v449 ≠ none := fun q => hs (hF.trans (kb2_n q _))
      refine km_cI (As := []) (rest := []) (n := 0) (q := (RX8, TX8, 23)) (ci := 8) (t := 30) (i := 0) ⟨hx, hb, hml, hown, hts⟩ (d_X8_letterOf l E Z v449  hs450) gX8_readsWord_X8_letterOf rfl hV_X8_letterOf ⟨Nat.le_of_ble_eq_true rfl, Nat.le_of_ble_eq_true rfl⟩ hK hw (by decide) (by decide) rfl rfl rfl hl.1 rfl (Nat.le_of_ble_eq_true rfl) dX8_readsWord_55 rfl rfl (fun r451 v452 H locs hp hw => ?_)
      have hF := hF.trans (kb2_some hp _)
      refine lv_istore_n (lv' := [(3, .int r451), (2, .int r448), (1, .int ((8 : Int32) + ((3 : Int32) * 0))), (0, .ref (Z.1 30 0))]) hx hb dX8_readsWord_58 rfl hl (by decide) rfl (fun ls hl => ?_)
      refine lv_aload_n hx hb dX8_readsWord_59 rfl (lv_at hl 3 rfl) ?_
      have hs453 : g_X8_isWell v452 ≠ none := fun q => hs (hF.trans (kb_n q _))
      refine km_cI (As := []) (rest := []) (n := 0) (q := (RX8, TX8, 23)) (ci := 8) (t := 30) (i := 0) ⟨hx, hb, hml, hown, hts⟩ (d_X8_isWell l E Z v452  hs453) gX8_readsWord_X8_isWell rfl hV_X8_isWell ⟨Nat.le_of_ble_eq_true rfl, Nat.le_of_ble_eq_true rfl⟩ hK hw (by decide) (by decide) rfl rfl rfl hl.1 rfl (Nat.le_of_ble_eq_true rfl) dX8_readsWord_60 rfl rfl (fun r454 v455 H locs hp hw => ?_)
      obtain ⟨hp, hzr454⟩ := hp
      obtain ⟨hp, rfl⟩ := hp
      have hF := hF.trans (kb_some hp _)
      refine lv_if_eq (tgt := 81) hx hb dX8_readsWord_63 (by decide) (fun c456 => ?_) (fun c456 => ?_)
      · skip
        have hF := hF.trans (if_pos c456)
        refine lv_aload_n hx hb dX8_readsWord_81 rfl (lv_at hl 3 rfl) ?_
        refine lv_aload_n hx hb dX8_readsWord_82 rfl (lv_at hl 3 rfl) ?_
        refine lv_iload_n hx hb dX8_readsWord_83 rfl (lv_at hl 1 rfl) ?_
        refine lv_iload_n hx hb dX8_readsWord_84 rfl (lv_at hl 0 rfl) ?_
        refine lv_aload_n hx hb dX8_readsWord_85 rfl (lv_at hl 3 rfl) ?_
        refine km_get (ci := 8) (C := RX8) (T := TX8) (N := 23) (t := 30) (i := 0) hx hb hts fi_X8_readsWord_X8 hown hK hw (by decide) (by decide) rfl rfl 12 (by decide) (hts (.fieldLink RX8 95 "WrongWordModel" "value" "I") ow_X8_readsWord_95) rfl dX8_readsWord_86 ?_
        refine lv_bipush (v := 97) hx hb dX8_readsWord_89 (by decide) ?_
        refine lv_isub hx hb dX8_readsWord_91 ?_
        have hs457 : g_X8_isTold v452 r448 r451 ((v452 30 0 12) - 97) ≠ none := fun q => hs (hF.trans (kb_n q _))
        refine km_cI (As := [.int r448, .int r451, .int ((v452 30 0 12) - 97)]) (rest := [.ref (Z.1 30 0)]) (n := 3) (q := (RX8, TX8, 23)) (ci := 8) (t := 30) (i := 0) ⟨hx, hb, hml, hown, hts⟩ (d_X8_isTold l E Z v452 r448 r451 ((v452 30 0 12) - 97) hs457) gX8_readsWord_X8_isTold rfl hV_X8_isTold ⟨Nat.le_of_ble_eq_true rfl, Nat.le_of_ble_eq_true rfl⟩ hK hw (by decide) (by decide) rfl rfl rfl hl.1 rfl (Nat.le_of_ble_eq_true rfl) dX8_readsWord_92 rfl rfl (fun r458 v459 H locs hp hw => ?_)
        obtain ⟨hp, hzr458⟩ := hp
        obtain ⟨hp, rfl⟩ := hp
        have hF := hF.trans (kb_some hp _)
        refine lv_if_ne (tgt := 102) hx hb dX8_readsWord_95 (by decide) (fun c460 => ?_) (fun c460 => ?_)
        · skip
          have hF := hF.trans (if_neg c460)
          refine lv_iconst (v := 0) hx hb dX8_readsWord_102 (by decide) ?_
          refine lv_iconst (v := 2) hx hb dX8_readsWord_103 (by decide) ?_
          have hs461 : g_X8_takes v452 0 2 ≠ none := fun q => hs (hF.trans (kb2_n q _))
          refine km_cI (As := [.int 0, .int 2]) (rest := []) (n := 2) (q := (RX8, TX8, 23)) (ci := 8) (t := 30) (i := 0) ⟨hx, hb, hml, hown, hts⟩ (d_X8_takes l E Z v452 0 2 hs461) gX8_readsWord_X8_takes rfl hV_X8_takes ⟨Nat.le_of_ble_eq_true rfl, Nat.le_of_ble_eq_true rfl⟩ hK hw (by decide) (by decide) rfl rfl rfl hl.1 rfl (Nat.le_of_ble_eq_true rfl) dX8_readsWord_104 rfl rfl (fun r462 v463 H locs hp hw => ?_)
          have hF := hF.trans (kb2_some hp _)
          refine lv_bipush (v := 97) hx hb dX8_readsWord_107 (by decide) ?_
          refine lv_isub hx hb dX8_readsWord_109 ?_
          refine lv_istore (lv' := [(4, .int (r462 - 97)), (3, .int r451), (2, .int r448), (1, .int ((8 : Int32) + ((3 : Int32) * 0))), (0, .ref (Z.1 30 0))]) hx hb dX8_readsWord_110 hl (by decide) rfl (fun ls hl => ?_)
          refine lv_aload_n hx hb dX8_readsWord_112 rfl (lv_at hl 4 rfl) ?_
          refine lv_aload_n hx hb dX8_readsWord_113 rfl (lv_at hl 4 rfl) ?_
          refine km_get (ci := 8) (C := RX8) (T := TX8) (N := 23) (t := 30) (i := 0) hx hb hts fi_X8_readsWord_X8 hown hK hw (by decide) (by decide) rfl rfl 11 (by decide) (hts (.fieldLink RX8 98 "WrongWordModel" "token" "I") ow_X8_readsWord_98) rfl dX8_readsWord_114 ?_
          refine lv_iconst (v := 4) hx hb dX8_readsWord_117 (by decide) ?_
          refine lv_icmp_ne (tgt := 125) hx hb dX8_readsWord_118 (by decide) (fun c464 => ?_) (fun c464 => ?_)
          · skip
            have hF := hF.trans (if_neg c464)
            refine lv_iconst (v := 0) hx hb dX8_readsWord_125 (by decide) ?_
            refine lv_iconst (v := 1) hx hb dX8_readsWord_126 (by decide) ?_
            have hs465 : g_X8_takes v463 0 1 ≠ none := fun q => hs (hF.trans (kb2_n q _))
            refine km_cI (As := [.int 0, .int 1]) (rest := []) (n := 2) (q := (RX8, TX8, 23)) (ci := 8) (t := 30) (i := 0) ⟨hx, hb, hml, hown, hts⟩ (d_X8_takes l E Z v463 0 1 hs465) gX8_readsWord_X8_takes rfl hV_X8_takes ⟨Nat.le_of_ble_eq_true rfl, Nat.le_of_ble_eq_true rfl⟩ hK hw (by decide) (by decide) rfl rfl rfl hl.1 rfl (Nat.le_of_ble_eq_true rfl) dX8_readsWord_127 rfl rfl (fun r466 v467 H locs hp hw => ?_)
            have hF := hF.trans (kb2_some hp _)
            refine lv_pop hx hb dX8_readsWord_130 rfl ?_
            refine lv_aload_n hx hb dX8_readsWord_131 rfl (lv_at hl 4 rfl) ?_
            have hs468 : g_X8_isWell v467 ≠ none := fun q => hs (hF.trans (kb_n q _))
            refine km_cI (As := []) (rest := []) (n := 0) (q := (RX8, TX8, 23)) (ci := 8) (t := 30) (i := 0) ⟨hx, hb, hml, hown, hts⟩ (d_X8_isWell l E Z v467  hs468) gX8_readsWord_X8_isWell rfl hV_X8_isWell ⟨Nat.le_of_ble_eq_true rfl, Nat.le_of_ble_eq_true rfl⟩ hK hw (by decide) (by decide) rfl rfl rfl hl.1 rfl (Nat.le_of_ble_eq_true rfl) dX8_readsWord_132 rfl rfl (fun r469 v470 H locs hp hw => ?_)
            obtain ⟨hp, hzr469⟩ := hp
            obtain ⟨hp, rfl⟩ := hp
            have hF := hF.trans (kb_some hp _)
            refine lv_if_eq (tgt := 174) hx hb dX8_readsWord_135 (by decide) (fun c471 => ?_) (fun c471 => ?_)
            · skip
              have hF := hF.trans (if_pos c471)
              exact hret _ _ _ _ _ hw dX8_readsWord_174 hF
            · skip
              have hF := hF.trans (if_neg c471)
              refine lv_aload_n hx hb dX8_readsWord_138 rfl (lv_at hl 4 rfl) ?_
              refine km_get (ci := 8) (C := RX8) (T := TX8) (N := 23) (t := 30) (i := 0) hx hb hts fi_X8_readsWord_X8 hown hK hw (by decide) (by decide) rfl rfl 14 (by decide) (hts (.fieldLink RX8 28 "WrongWordModel" "draft" "[I") ow_X8_readsWord_28) rfl dX8_readsWord_139 ?_
              refine lv_iload_n hx hb dX8_readsWord_142 rfl (lv_at hl 3 rfl) ?_
              refine lv_iload_n hx hb dX8_readsWord_143 rfl (lv_at hl 2 rfl) ?_
              have hb472 : ¬ ((8 : Int32) + ((3 : Int32) * 0) < 0 ∨ 65 ≤ Int32.toNatClampNeg ((8 : Int32) + ((3 : Int32) * 0))) := fun q => hs (hF.trans (if_pos q))
              have hF := hF.trans (if_neg hb472)
              refine km_iast (t := 37) (i := 0) (n := 65) hx hb hK hw (by decide) (by decide) (fun _ => rfl) hb472 dX8_readsWord_144 (fun H locs hw => ?_)
              obtain ⟨v473, ev473⟩ : ∃ z, z = up3 v467 37 0 (Int32.toNatClampNeg ((8 : Int32) + ((3 : Int32) * 0))) r448 := ⟨_, rfl⟩
              rw [← ev473] at hw
              have hF := hF.trans (kb_some (congrArg some ev473.symm) _)
              refine lv_aload_n hx hb dX8_readsWord_145 rfl (lv_at hl 4 rfl) ?_
              refine km_get (ci := 8) (C := RX8) (T := TX8) (N := 23) (t := 30) (i := 0) hx hb hts fi_X8_readsWord_X8 hown hK hw (by decide) (by decide) rfl rfl 14 (by decide) (hts (.fieldLink RX8 28 "WrongWordModel" "draft" "[I") ow_X8_readsWord_28) rfl dX8_readsWord_146 ?_
              refine lv_iload_n hx hb dX8_readsWord_149 rfl (lv_at hl 3 rfl) ?_
              refine lv_iconst (v := 1) hx hb dX8_readsWord_150 (by decide) ?_
              refine lv_iadd hx hb dX8_readsWord_151 ?_
              refine lv_iload_n hx hb dX8_readsWord_152 rfl (lv_at hl 1 rfl) ?_
              have hb474 : ¬ (((8 : Int32) + ((3 : Int32) * 0)) + 1 < 0 ∨ 65 ≤ Int32.toNatClampNeg (((8 : Int32) + ((3 : Int32) * 0)) + 1)) := fun q => hs (hF.trans (if_pos q))
              have hF := hF.trans (if_neg hb474)
              refine km_iast (t := 37) (i := 0) (n := 65) hx hb hK hw (by decide) (by decide) (fun _ => rfl) hb474 dX8_readsWord_153 (fun H locs hw => ?_)
              obtain ⟨v475, ev475⟩ : ∃ z, z = up3 v473 37 0 (Int32.toNatClampNeg (((8 : Int32) + ((3 : Int32) * 0)) + 1)) r451 := ⟨_, rfl⟩
              rw [← ev475] at hw
              have hF := hF.trans (kb_some (congrArg some ev475.symm) _)
              refine lv_aload_n hx hb dX8_readsWord_154 rfl (lv_at hl 4 rfl) ?_
              refine km_get (ci := 8) (C := RX8) (T := TX8) (N := 23) (t := 30) (i := 0) hx hb hts fi_X8_readsWord_X8 hown hK hw (by decide) (by decide) rfl rfl 14 (by decide) (hts (.fieldLink RX8 28 "WrongWordModel" "draft" "[I") ow_X8_readsWord_28) rfl dX8_readsWord_155 ?_
              refine lv_iload_n hx hb dX8_readsWord_158 rfl (lv_at hl 3 rfl) ?_
              refine lv_iconst (v := 2) hx hb dX8_readsWord_159 (by decide) ?_
              refine lv_iadd hx hb dX8_readsWord_160 ?_
              refine lv_iload hx hb dX8_readsWord_161 (lv_at hl 0 rfl) ?_
              have hb476 : ¬ (((8 : Int32) + ((3 : Int32) * 0)) + 2 < 0 ∨ 65 ≤ Int32.toNatClampNeg (((8 : Int32) + ((3 : Int32) * 0)) + 2)) := fun q => hs (hF.trans (if_pos q))
              have hF := hF.trans (if_neg hb476)
              refine km_iast (t := 37) (i := 0) (n := 65) hx hb hK hw (by decide) (by decide) (fun _ => rfl) hb476 dX8_readsWord_163 (fun H locs hw => ?_)
              obtain ⟨v477, ev477⟩ : ∃ z, z = up3 v475 37 0 (Int32.toNatClampNeg (((8 : Int32) + ((3 : Int32) * 0)) + 2)) (r462 - 97) := ⟨_, rfl⟩
              rw [← ev477] at hw
              have hF := hF.trans (kb_some (congrArg some ev477.symm) _)
              refine lv_aload_n hx hb dX8_readsWord_164 rfl (lv_at hl 4 rfl) ?_
              refine km_get (ci := 8) (C := RX8) (T := TX8) (N := 23) (t := 30) (i := 0) hx hb hts fi_X8_readsWord_X8 hown hK hw (by decide) (by decide) rfl rfl 14 (by decide) (hts (.fieldLink RX8 28 "WrongWordModel" "draft" "[I") ow_X8_readsWord_28) rfl dX8_readsWord_165 ?_
              refine lv_iconst (v := 3) hx hb dX8_readsWord_168 (by decide) ?_
              refine lv_dup2_11 hx hb dX8_readsWord_169 rfl rfl ?_
              refine km_iald (t := 37) (i := 0) hx hb hK hw (by decide) (by decide) rfl (by unfold vp_in; decide) dX8_readsWord_170 ?_
              refine lv_iconst (v := 1) hx hb dX8_readsWord_171 (by decide) ?_
              refine lv_iadd hx hb dX8_readsWord_172 ?_
              refine km_iast (t := 37) (i := 0) (n := 65) hx hb hK hw (by decide) (by decide) (fun _ => rfl) (by unfold vp_in; decide) dX8_readsWord_173 (fun H locs hw => ?_)
              obtain ⟨v478, ev478⟩ : ∃ z, z = up3 v477 37 0 (Int32.toNatClampNeg 3) ((v477 37 0 (Int32.toNatClampNeg 3)) + 1) := ⟨_, rfl⟩
              rw [← ev478] at hw
              have hF := hF.trans (kb_some (congrArg some ev478.symm) _)
              exact hret _ _ _ _ _ hw dX8_readsWord_174 hF
          · skip
            have hF := hF.trans (if_pos c464)
            refine lv_iconst (v := 1) hx hb dX8_readsWord_121 (by decide) ?_
            refine lv_goto (tgt := 126) hx hb dX8_readsWord_122 (by decide) ?_
            refine lv_iconst (v := 1) hx hb dX8_readsWord_126 (by decide) ?_
            have hs479 : g_X8_takes v463 1 1 ≠ none := fun q => hs (hF.trans (kb2_n q _))
            refine km_cI (As := [.int 1, .int 1]) (rest := []) (n := 2) (q := (RX8, TX8, 23)) (ci := 8) (t := 30) (i := 0) ⟨hx, hb, hml, hown, hts⟩ (d_X8_takes l E Z v463 1 1 hs479) gX8_readsWord_X8_takes rfl hV_X8_takes ⟨Nat.le_of_ble_eq_true rfl, Nat.le_of_ble_eq_true rfl⟩ hK hw (by decide) (by decide) rfl rfl rfl hl.1 rfl (Nat.le_of_ble_eq_true rfl) dX8_readsWord_127 rfl rfl (fun r480 v481 H locs hp hw => ?_)
            have hF := hF.trans (kb2_some hp _)
            refine lv_pop hx hb dX8_readsWord_130 rfl ?_
            refine lv_aload_n hx hb dX8_readsWord_131 rfl (lv_at hl 4 rfl) ?_
            have hs482 : g_X8_isWell v481 ≠ none := fun q => hs (hF.trans (kb_n q _))
            refine km_cI (As := []) (rest := []) (n := 0) (q := (RX8, TX8, 23)) (ci := 8) (t := 30) (i := 0) ⟨hx, hb, hml, hown, hts⟩ (d_X8_isWell l E Z v481  hs482) gX8_readsWord_X8_isWell rfl hV_X8_isWell ⟨Nat.le_of_ble_eq_true rfl, Nat.le_of_ble_eq_true rfl⟩ hK hw (by decide) (by decide) rfl rfl rfl hl.1 rfl (Nat.le_of_ble_eq_true rfl) dX8_readsWord_132 rfl rfl (fun r483 v484 H locs hp hw => ?_)
            obtain ⟨hp, hzr483⟩ := hp
            obtain ⟨hp, rfl⟩ := hp
            have hF := hF.trans (kb_some hp _)
            refine lv_if_eq (tgt := 174) hx hb dX8_readsWord_135 (by decide) (fun c485 => ?_) (fun c485 => ?_)
            · skip
              have hF := hF.trans (if_pos c485)
              exact hret _ _ _ _ _ hw dX8_readsWord_174 hF
            · skip
              have hF := hF.trans (if_neg c485)
              refine lv_aload_n hx hb dX8_readsWord_138 rfl (lv_at hl 4 rfl) ?_
              refine km_get (ci := 8) (C := RX8) (T := TX8) (N := 23) (t := 30) (i := 0) hx hb hts fi_X8_readsWord_X8 hown hK hw (by decide) (by decide) rfl rfl 14 (by decide) (hts (.fieldLink RX8 28 "WrongWordModel" "draft" "[I") ow_X8_readsWord_28) rfl dX8_readsWord_139 ?_
              refine lv_iload_n hx hb dX8_readsWord_142 rfl (lv_at hl 3 rfl) ?_
              refine lv_iload_n hx hb dX8_readsWord_143 rfl (lv_at hl 2 rfl) ?_
              have hb486 : ¬ ((8 : Int32) + ((3 : Int32) * 0) < 0 ∨ 65 ≤ Int32.toNatClampNeg ((8 : Int32) + ((3 : Int32) * 0))) := fun q => hs (hF.trans (if_pos q))
              have hF := hF.trans (if_neg hb486)
              refine km_iast (t := 37) (i := 0) (n := 65) hx hb hK hw (by decide) (by decide) (fun _ => rfl) hb486 dX8_readsWord_144 (fun H locs hw => ?_)
              obtain ⟨v487, ev487⟩ : ∃ z, z = up3 v481 37 0 (Int32.toNatClampNeg ((8 : Int32) + ((3 : Int32) * 0))) r448 := ⟨_, rfl⟩
              rw [← ev487] at hw
              have hF := hF.trans (kb_some (congrArg some ev487.symm) _)
              refine lv_aload_n hx hb dX8_readsWord_145 rfl (lv_at hl 4 rfl) ?_
              refine km_get (ci := 8) (C := RX8) (T := TX8) (N := 23) (t := 30) (i := 0) hx hb hts fi_X8_readsWord_X8 hown hK hw (by decide) (by decide) rfl rfl 14 (by decide) (hts (.fieldLink RX8 28 "WrongWordModel" "draft" "[I") ow_X8_readsWord_28) rfl dX8_readsWord_146 ?_
              refine lv_iload_n hx hb dX8_readsWord_149 rfl (lv_at hl 3 rfl) ?_
              refine lv_iconst (v := 1) hx hb dX8_readsWord_150 (by decide) ?_
              refine lv_iadd hx hb dX8_readsWord_151 ?_
              refine lv_iload_n hx hb dX8_readsWord_152 rfl (lv_at hl 1 rfl) ?_
              have hb488 : ¬ (((8 : Int32) + ((3 : Int32) * 0)) + 1 < 0 ∨ 65 ≤ Int32.toNatClampNeg (((8 : Int32) + ((3 : Int32) * 0)) + 1)) := fun q => hs (hF.trans (if_pos q))
              have hF := hF.trans (if_neg hb488)
              refine km_iast (t := 37) (i := 0) (n := 65) hx hb hK hw (by decide) (by decide) (fun _ => rfl) hb488 dX8_readsWord_153 (fun H locs hw => ?_)
              obtain ⟨v489, ev489⟩ : ∃ z, z = up3 v487 37 0 (Int32.toNatClampNeg (((8 : Int32) + ((3 : Int32) * 0)) + 1)) r451 := ⟨_, rfl⟩
              rw [← ev489] at hw
              have hF := hF.trans (kb_some (congrArg some ev489.symm) _)
              refine lv_aload_n hx hb dX8_readsWord_154 rfl (lv_at hl 4 rfl) ?_
              refine km_get (ci := 8) (C := RX8) (T := TX8) (N := 23) (t := 30) (i := 0) hx hb hts fi_X8_readsWord_X8 hown hK hw (by decide) (by decide) rfl rfl 14 (by decide) (hts (.fieldLink RX8 28 "WrongWordModel" "draft" "[I") ow_X8_readsWord_28) rfl dX8_readsWord_155 ?_
              refine lv_iload_n hx hb dX8_readsWord_158 rfl (lv_at hl 3 rfl) ?_
              refine lv_iconst (v := 2) hx hb dX8_readsWord_159 (by decide) ?_
              refine lv_iadd hx hb dX8_readsWord_160 ?_
              refine lv_iload hx hb dX8_readsWord_161 (lv_at hl 0 rfl) ?_
              have hb490 : ¬ (((8 : Int32) + ((3 : Int32) * 0)) + 2 < 0 ∨ 65 ≤ Int32.toNatClampNeg (((8 : Int32) + ((3 : Int32) * 0)) + 2)) := fun q => hs (hF.trans (if_pos q))
              have hF := hF.trans (if_neg hb490)
              refine km_iast (t := 37) (i := 0) (n := 65) hx hb hK hw (by decide) (by decide) (fun _ => rfl) hb490 dX8_readsWord_163 (fun H locs hw => ?_)
              obtain ⟨v491, ev491⟩ : ∃ z, z = up3 v489 37 0 (Int32.toNatClampNeg (((8 : Int32) + ((3 : Int32) * 0)) + 2)) (r462 - 97) := ⟨_, rfl⟩
              rw [← ev491] at hw
              have hF := hF.trans (kb_some (congrArg some ev491.symm) _)
              refine lv_aload_n hx hb dX8_readsWord_164 rfl (lv_at hl 4 rfl) ?_
              refine km_get (ci := 8) (C := RX8) (T := TX8) (N := 23) (t := 30) (i := 0) hx hb hts fi_X8_readsWord_X8 hown hK hw (by decide) (by decide) rfl rfl 14 (by decide) (hts (.fieldLink RX8 28 "WrongWordModel" "draft" "[I") ow_X8_readsWord_28) rfl dX8_readsWord_165 ?_
              refine lv_iconst (v := 3) hx hb dX8_readsWord_168 (by decide) ?_
              refine lv_dup2_11 hx hb dX8_readsWord_169 rfl rfl ?_
              refine km_iald (t := 37) (i := 0) hx hb hK hw (by decide) (by decide) rfl (by unfold vp_in; decide) dX8_readsWord_170 ?_
              refine lv_iconst (v := 1) hx hb dX8_readsWord_171 (by decide) ?_
              refine lv_iadd hx hb dX8_readsWord_172 ?_
              refine km_iast (t := 37) (i := 0) (n := 65) hx hb hK hw (by decide) (by decide) (fun _ => rfl) (by unfold vp_in; decide) dX8_readsWord_173 (fun H locs hw => ?_)
              obtain ⟨v492, ev492⟩ : ∃ z, z = up3 v491 37 0 (Int32.toNatClampNeg 3) ((v491 37 0 (Int32.toNatClampNeg 3)) + 1) := ⟨_, rfl⟩
              rw [← ev492] at hw
              have hF := hF.trans (kb_some (congrArg some ev492.symm) _)
              exact hret _ _ _ _ _ hw dX8_readsWord_174 hF
        · skip
          have hF := hF.trans (if_pos c460)
          refine lv_iconst (v := 1) hx hb dX8_readsWord_98 (by decide) ?_
          refine lv_goto (tgt := 103) hx hb dX8_readsWord_99 (by decide) ?_
          refine lv_iconst (v := 2) hx hb dX8_readsWord_103 (by decide) ?_
          have hs493 : g_X8_takes v452 1 2 ≠ none := fun q => hs (hF.trans (kb2_n q _))
          refine km_cI (As := [.int 1, .int 2]) (rest := []) (n := 2) (q := (RX8, TX8, 23)) (ci := 8) (t := 30) (i := 0) ⟨hx, hb, hml, hown, hts⟩ (d_X8_takes l E Z v452 1 2 hs493) gX8_readsWord_X8_takes rfl hV_X8_takes ⟨Nat.le_of_ble_eq_true rfl, Nat.le_of_ble_eq_true rfl⟩ hK hw (by decide) (by decide) rfl rfl rfl hl.1 rfl (Nat.le_of_ble_eq_true rfl) dX8_readsWord_104 rfl rfl (fun r494 v495 H locs hp hw => ?_)
          have hF := hF.trans (kb2_some hp _)
          refine lv_bipush (v := 97) hx hb dX8_readsWord_107 (by decide) ?_
          refine lv_isub hx hb dX8_readsWord_109 ?_
          refine lv_istore (lv' := [(4, .int (r494 - 97)), (3, .int r451), (2, .int r448), (1, .int ((8 : Int32) + ((3 : Int32) * 0))), (0, .ref (Z.1 30 0))]) hx hb dX8_readsWord_110 hl (by decide) rfl (fun ls hl => ?_)
          refine lv_aload_n hx hb dX8_readsWord_112 rfl (lv_at hl 4 rfl) ?_
          refine lv_aload_n hx hb dX8_readsWord_113 rfl (lv_at hl 4 rfl) ?_
          refine km_get (ci := 8) (C := RX8) (T := TX8) (N := 23) (t := 30) (i := 0) hx hb hts fi_X8_readsWord_X8 hown hK hw (by decide) (by decide) rfl rfl 11 (by decide) (hts (.fieldLink RX8 98 "WrongWordModel" "token" "I") ow_X8_readsWord_98) rfl dX8_readsWord_114 ?_
          refine lv_iconst (v := 4) hx hb dX8_readsWord_117 (by decide) ?_
          refine lv_icmp_ne (tgt := 125) hx hb dX8_readsWord_118 (by decide) (fun c496 => ?_) (fun c496 => ?_)
          · skip
            have hF := hF.trans (if_neg c496)
            refine lv_iconst (v := 0) hx hb dX8_readsWord_125 (by decide) ?_
            refine lv_iconst (v := 1) hx hb dX8_readsWord_126 (by decide) ?_
            have hs497 : g_X8_takes v495 0 1 ≠ none := fun q => hs (hF.trans (kb2_n q _))
            refine km_cI (As := [.int 0, .int 1]) (rest := []) (n := 2) (q := (RX8, TX8, 23)) (ci := 8) (t := 30) (i := 0) ⟨hx, hb, hml, hown, hts⟩ (d_X8_takes l E Z v495 0 1 hs497) gX8_readsWord_X8_takes rfl hV_X8_takes ⟨Nat.le_of_ble_eq_true rfl, Nat.le_of_ble_eq_true rfl⟩ hK hw (by decide) (by decide) rfl rfl rfl hl.1 rfl (Nat.le_of_ble_eq_true rfl) dX8_readsWord_127 rfl rfl (fun r498 v499 H locs hp hw => ?_)
            have hF := hF.trans (kb2_some hp _)
            refine lv_pop hx hb dX8_readsWord_130 rfl ?_
            refine lv_aload_n hx hb dX8_readsWord_131 rfl (lv_at hl 4 rfl) ?_
            have hs500 : g_X8_isWell v499 ≠ none := fun q => hs (hF.trans (kb_n q _))
            refine km_cI (As := []) (rest := []) (n := 0) (q := (RX8, TX8, 23)) (ci := 8) (t := 30) (i := 0) ⟨hx, hb, hml, hown, hts⟩ (d_X8_isWell l E Z v499  hs500) gX8_readsWord_X8_isWell rfl hV_X8_isWell ⟨Nat.le_of_ble_eq_true rfl, Nat.le_of_ble_eq_true rfl⟩ hK hw (by decide) (by decide) rfl rfl rfl hl.1 rfl (Nat.le_of_ble_eq_true rfl) dX8_readsWord_132 rfl rfl (fun r501 v502 H locs hp hw => ?_)
            obtain ⟨hp, hzr501⟩ := hp
            obtain ⟨hp, rfl⟩ := hp
            have hF := hF.trans (kb_some hp _)
            refine lv_if_eq (tgt := 174) hx hb dX8_readsWord_135 (by decide) (fun c503 => ?_) (fun c503 => ?_)
            · skip
              have hF := hF.trans (if_pos c503)
              exact hret _ _ _ _ _ hw dX8_readsWord_174 hF
            · skip
              have hF := hF.trans (if_neg c503)
              refine lv_aload_n hx hb dX8_readsWord_138 rfl (lv_at hl 4 rfl) ?_
              refine km_get (ci := 8) (C := RX8) (T := TX8) (N := 23) (t := 30) (i := 0) hx hb hts fi_X8_readsWord_X8 hown hK hw (by decide) (by decide) rfl rfl 14 (by decide) (hts (.fieldLink RX8 28 "WrongWordModel" "draft" "[I") ow_X8_readsWord_28) rfl dX8_readsWord_139 ?_
              refine lv_iload_n hx hb dX8_readsWord_142 rfl (lv_at hl 3 rfl) ?_
              refine lv_iload_n hx hb dX8_readsWord_143 rfl (lv_at hl 2 rfl) ?_
              have hb504 : ¬ ((8 : Int32) + ((3 : Int32) * 0) < 0 ∨ 65 ≤ Int32.toNatClampNeg ((8 : Int32) + ((3 : Int32) * 0))) := fun q => hs (hF.trans (if_pos q))
              have hF := hF.trans (if_neg hb504)
              refine km_iast (t := 37) (i := 0) (n := 65) hx hb hK hw (by decide) (by decide) (fun _ => rfl) hb504 dX8_readsWord_144 (fun H locs hw => ?_)
              obtain ⟨v505, ev505⟩ : ∃ z, z = up3 v499 37 0 (Int32.toNatClampNeg ((8 : Int32) + ((3 : Int32) * 0))) r448 := ⟨_, rfl⟩
              rw [← ev505] at hw
              have hF := hF.trans (kb_some (congrArg some ev505.symm) _)
              refine lv_aload_n hx hb dX8_readsWord_145 rfl (lv_at hl 4 rfl) ?_
              refine km_get (ci := 8) (C := RX8) (T := TX8) (N := 23) (t := 30) (i := 0) hx hb hts fi_X8_readsWord_X8 hown hK hw (by decide) (by decide) rfl rfl 14 (by decide) (hts (.fieldLink RX8 28 "WrongWordModel" "draft" "[I") ow_X8_readsWord_28) rfl dX8_readsWord_146 ?_
              refine lv_iload_n hx hb dX8_readsWord_149 rfl (lv_at hl 3 rfl) ?_
              refine lv_iconst (v := 1) hx hb dX8_readsWord_150 (by decide) ?_
              refine lv_iadd hx hb dX8_readsWord_151 ?_
              refine lv_iload_n hx hb dX8_readsWord_152 rfl (lv_at hl 1 rfl) ?_
              have hb506 : ¬ (((8 : Int32) + ((3 : Int32) * 0)) + 1 < 0 ∨ 65 ≤ Int32.toNatClampNeg (((8 : Int32) + ((3 : Int32) * 0)) + 1)) := fun q => hs (hF.trans (if_pos q))
              have hF := hF.trans (if_neg hb506)
              refine km_iast (t := 37) (i := 0) (n := 65) hx hb hK hw (by decide) (by decide) (fun _ => rfl) hb506 dX8_readsWord_153 (fun H locs hw => ?_)
              obtain ⟨v507, ev507⟩ : ∃ z, z = up3 v505 37 0 (Int32.toNatClampNeg (((8 : Int32) + ((3 : Int32) * 0)) + 1)) r451 := ⟨_, rfl⟩
              rw [← ev507] at hw
              have hF := hF.trans (kb_some (congrArg some ev507.symm) _)
              refine lv_aload_n hx hb dX8_readsWord_154 rfl (lv_at hl 4 rfl) ?_
              refine km_get (ci := 8) (C := RX8) (T := TX8) (N := 23) (t := 30) (i := 0) hx hb hts fi_X8_readsWord_X8 hown hK hw (by decide) (by decide) rfl rfl 14 (by decide) (hts (.fieldLink RX8 28 "WrongWordModel" "draft" "[I") ow_X8_readsWord_28) rfl dX8_readsWord_155 ?_
              refine lv_iload_n hx hb dX8_readsWord_158 rfl (lv_at hl 3 rfl) ?_
              refine lv_iconst (v := 2) hx hb dX8_readsWord_159 (by decide) ?_
              refine lv_iadd hx hb dX8_readsWord_160 ?_
              refine lv_iload hx hb dX8_readsWord_161 (lv_at hl 0 rfl) ?_
              have hb508 : ¬ (((8 : Int32) + ((3 : Int32) * 0)) + 2 < 0 ∨ 65 ≤ Int32.toNatClampNeg (((8 : Int32) + ((3 : Int32) * 0)) + 2)) := fun q => hs (hF.trans (if_pos q))
              have hF := hF.trans (if_neg hb508)
              refine km_iast (t := 37) (i := 0) (n := 65) hx hb hK hw (by decide) (by decide) (fun _ => rfl) hb508 dX8_readsWord_163 (fun H locs hw => ?_)
              obtain ⟨v509, ev509⟩ : ∃ z, z = up3 v507 37 0 (Int32.toNatClampNeg (((8 : Int32) + ((3 : Int32) * 0)) + 2)) (r494 - 97) := ⟨_, rfl⟩
              rw [← ev509] at hw
              have hF := hF.trans (kb_some (congrArg some ev509.symm) _)
              refine lv_aload_n hx hb dX8_readsWord_164 rfl (lv_at hl 4 rfl) ?_
              refine km_get (ci := 8) (C := RX8) (T := TX8) (N := 23) (t := 30) (i := 0) hx hb hts fi_X8_readsWord_X8 hown hK hw (by decide) (by decide) rfl rfl 14 (by decide) (hts (.fieldLink RX8 28 "WrongWordModel" "draft" "[I") ow_X8_readsWord_28) rfl dX8_readsWord_165 ?_
              refine lv_iconst (v := 3) hx hb dX8_readsWord_168 (by decide) ?_
              refine lv_dup2_11 hx hb dX8_readsWord_169 rfl rfl ?_
              refine km_iald (t := 37) (i := 0) hx hb hK hw (by decide) (by decide) rfl (by unfold vp_in; decide) dX8_readsWord_170 ?_
              refine lv_iconst (v := 1) hx hb dX8_readsWord_171 (by decide) ?_
              refine lv_iadd hx hb dX8_readsWord_172 ?_
              refine km_iast (t := 37) (i := 0) (n := 65) hx hb hK hw (by decide) (by decide) (fun _ => rfl) (by unfold vp_in; decide) dX8_readsWord_173 (fun H locs hw => ?_)
              obtain ⟨v510, ev510⟩ : ∃ z, z = up3 v509 37 0 (Int32.toNatClampNeg 3) ((v509 37 0 (Int32.toNatClampNeg 3)) + 1) := ⟨_, rfl⟩
              rw [← ev510] at hw
              have hF := hF.trans (kb_some (congrArg some ev510.symm) _)
              exact hret _ _ _ _ _ hw dX8_readsWord_174 hF
          · skip
            have hF := hF.trans (if_pos c496)
            refine lv_iconst (v := 1) hx hb dX8_readsWord_121 (by decide) ?_
            refine lv_goto (tgt := 126) hx hb dX8_readsWord_122 (by decide) ?_
            refine lv_iconst (v := 1) hx hb dX8_readsWord_126 (by decide) ?_
            have hs511 : g_X8_takes v495 1 1 ≠ none := fun q => hs (hF.trans (kb2_n q _))
            refine km_cI (As := [.int 1, .int 1]) (rest := []) (n := 2) (q := (RX8, TX8, 23)) (ci := 8) (t := 30) (i := 0) ⟨hx, hb, hml, hown, hts⟩ (d_X8_takes l E Z v495 1 1 hs511) gX8_readsWord_X8_takes rfl hV_X8_takes ⟨Nat.le_of_ble_eq_true rfl, Nat.le_of_ble_eq_true rfl⟩ hK hw (by decide) (by decide) rfl rfl rfl hl.1 rfl (Nat.le_of_ble_eq_true rfl) dX8_readsWord_127 rfl rfl (fun r512 v513 H locs hp hw => ?_)
            have hF := hF.trans (kb2_some hp _)
            refine lv_pop hx hb dX8_readsWord_130 rfl ?_
            refine lv_aload_n hx hb dX8_readsWord_131 rfl (lv_at hl 4 rfl) ?_
            have hs514 : g_X8_isWell v513 ≠ none := fun q => hs (hF.trans (kb_n q _))
            refine km_cI (As := []) (rest := []) (n := 0) (q := (RX8, TX8, 23)) (ci := 8) (t := 30) (i := 0) ⟨hx, hb, hml, hown, hts⟩ (d_X8_isWell l E Z v513  hs514) gX8_readsWord_X8_isWell rfl hV_X8_isWell ⟨Nat.le_of_ble_eq_true rfl, Nat.le_of_ble_eq_true rfl⟩ hK hw (by decide) (by decide) rfl rfl rfl hl.1 rfl (Nat.le_of_ble_eq_true rfl) dX8_readsWord_132 rfl rfl (fun r515 v516 H locs hp hw => ?_)
            obtain ⟨hp, hzr515⟩ := hp
            obtain ⟨hp, rfl⟩ := hp
            have hF := hF.trans (kb_some hp _)
            refine lv_if_eq (tgt := 174) hx hb dX8_readsWord_135 (by decide) (fun c517 => ?_) (fun c517 => ?_)
            · skip
              have hF := hF.trans (if_pos c517)
              exact hret _ _ _ _ _ hw dX8_readsWord_174 hF
            · skip
              have hF := hF.trans (if_neg c517)
              refine lv_aload_n hx hb dX8_readsWord_138 rfl (lv_at hl 4 rfl) ?_
              refine km_get (ci := 8) (C := RX8) (T := TX8) (N := 23) (t := 30) (i := 0) hx hb hts fi_X8_readsWord_X8 hown hK hw (by decide) (by decide) rfl rfl 14 (by decide) (hts (.fieldLink RX8 28 "WrongWordModel" "draft" "[I") ow_X8_readsWord_28) rfl dX8_readsWord_139 ?_
              refine lv_iload_n hx hb dX8_readsWord_142 rfl (lv_at hl 3 rfl) ?_
              refine lv_iload_n hx hb dX8_readsWord_143 rfl (lv_at hl 2 rfl) ?_
              have hb518 : ¬ ((8 : Int32) + ((3 : Int32) * 0) < 0 ∨ 65 ≤ Int32.toNatClampNeg ((8 : Int32) + ((3 : Int32) * 0))) := fun q => hs (hF.trans (if_pos q))
              have hF := hF.trans (if_neg hb518)
              refine km_iast (t := 37) (i := 0) (n := 65) hx hb hK hw (by decide) (by decide) (fun _ => rfl) hb518 dX8_readsWord_144 (fun H locs hw => ?_)
              obtain ⟨v519, ev519⟩ : ∃ z, z = up3 v513 37 0 (Int32.toNatClampNeg ((8 : Int32) + ((3 : Int32) * 0))) r448 := ⟨_, rfl⟩
              rw [← ev519] at hw
              have hF := hF.trans (kb_some (congrArg some ev519.symm) _)
              refine lv_aload_n hx hb dX8_readsWord_145 rfl (lv_at hl 4 rfl) ?_
              refine km_get (ci := 8) (C := RX8) (T := TX8) (N := 23) (t := 30) (i := 0) hx hb hts fi_X8_readsWord_X8 hown hK hw (by decide) (by decide) rfl rfl 14 (by decide) (hts (.fieldLink RX8 28 "WrongWordModel" "draft" "[I") ow_X8_readsWord_28) rfl dX8_readsWord_146 ?_
              refine lv_iload_n hx hb dX8_readsWord_149 rfl (lv_at hl 3 rfl) ?_
              refine lv_iconst (v := 1) hx hb dX8_readsWord_150 (by decide) ?_
              refine lv_iadd hx hb dX8_readsWord_151 ?_
              refine lv_iload_n hx hb dX8_readsWord_152 rfl (lv_at hl 1 rfl) ?_
              have hb520 : ¬ (((8 : Int32) + ((3 : Int32) * 0)) + 1 < 0 ∨ 65 ≤ Int32.toNatClampNeg (((8 : Int32) + ((3 : Int32) * 0)) + 1)) := fun q => hs (hF.trans (if_pos q))
              have hF := hF.trans (if_neg hb520)
              refine km_iast (t := 37) (i := 0) (n := 65) hx hb hK hw (by decide) (by decide) (fun _ => rfl) hb520 dX8_readsWord_153 (fun H locs hw => ?_)
              obtain ⟨v521, ev521⟩ : ∃ z, z = up3 v519 37 0 (Int32.toNatClampNeg (((8 : Int32) + ((3 : Int32) * 0)) + 1)) r451 := ⟨_, rfl⟩
              rw [← ev521] at hw
              have hF := hF.trans (kb_some (congrArg some ev521.symm) _)
              refine lv_aload_n hx hb dX8_readsWord_154 rfl (lv_at hl 4 rfl) ?_
              refine km_get (ci := 8) (C := RX8) (T := TX8) (N := 23) (t := 30) (i := 0) hx hb hts fi_X8_readsWord_X8 hown hK hw (by decide) (by decide) rfl rfl 14 (by decide) (hts (.fieldLink RX8 28 "WrongWordModel" "draft" "[I") ow_X8_readsWord_28) rfl dX8_readsWord_155 ?_
              refine lv_iload_n hx hb dX8_readsWord_158 rfl (lv_at hl 3 rfl) ?_
              refine lv_iconst (v := 2) hx hb dX8_readsWord_159 (by decide) ?_
              refine lv_iadd hx hb dX8_readsWord_160 ?_
              refine lv_iload hx hb dX8_readsWord_161 (lv_at hl 0 rfl) ?_
              have hb522 : ¬ (((8 : Int32) + ((3 : Int32) * 0)) + 2 < 0 ∨ 65 ≤ Int32.toNatClampNeg (((8 : Int32) + ((3 : Int32) * 0)) + 2)) := fun q => hs (hF.trans (if_pos q))
              have hF := hF.trans (if_neg hb522)
              refine km_iast (t := 37) (i := 0) (n := 65) hx hb hK hw (by decide) (by decide) (fun _ => rfl) hb522 dX8_readsWord_163 (fun H locs hw => ?_)
              obtain ⟨v523, ev523⟩ : ∃ z, z = up3 v521 37 0 (Int32.toNatClampNeg (((8 : Int32) + ((3 : Int32) * 0)) + 2)) (r494 - 97) := ⟨_, rfl⟩
              rw [← ev523] at hw
              have hF := hF.trans (kb_some (congrArg some ev523.symm) _)
              refine lv_aload_n hx hb dX8_readsWord_164 rfl (lv_at hl 4 rfl) ?_
              refine km_get (ci := 8) (C := RX8) (T := TX8) (N := 23) (t := 30) (i := 0) hx hb hts fi_X8_readsWord_X8 hown hK hw (by decide) (by decide) rfl rfl 14 (by decide) (hts (.fieldLink RX8 28 "WrongWordModel" "draft" "[I") ow_X8_readsWord_28) rfl dX8_readsWord_165 ?_
              refine lv_iconst (v := 3) hx hb dX8_readsWord_168 (by decide) ?_
              refine lv_dup2_11 hx hb dX8_readsWord_169 rfl rfl ?_
              refine km_iald (t := 37) (i := 0) hx hb hK hw (by decide) (by decide) rfl (by unfold vp_in; decide) dX8_readsWord_170 ?_
              refine lv_iconst (v := 1) hx hb dX8_readsWord_171 (by decide) ?_
              refine lv_iadd hx hb dX8_readsWord_172 ?_
              refine km_iast (t := 37) (i := 0) (n := 65) hx hb hK hw (by decide) (by decide) (fun _ => rfl) (by unfold vp_in; decide) dX8_readsWord_173 (fun H locs hw => ?_)
              obtain ⟨v524, ev524⟩ : ∃ z, z = up3 v523 37 0 (Int32.toNatClampNeg 3) ((v523 37 0 (Int32.toNatClampNeg 3)) + 1) := ⟨_, rfl⟩
              rw [← ev524] at hw
              have hF := hF.trans (kb_some (congrArg some ev524.symm) _)
              exact hret _ _ _ _ _ hw dX8_readsWord_174 hF
      · skip
        have hF := hF.trans (if_neg c456)
        refine lv_aload_n hx hb dX8_readsWord_66 rfl (lv_at hl 3 rfl) ?_
        refine km_get (ci := 8) (C := RX8) (T := TX8) (N := 23) (t := 30) (i := 0) hx hb hts fi_X8_readsWord_X8 hown hK hw (by decide) (by decide) rfl rfl 11 (by decide) (hts (.fieldLink RX8 98 "WrongWordModel" "token" "I") ow_X8_readsWord_98) rfl dX8_readsWord_67 ?_
        refine lv_iconst (v := 1) hx hb dX8_readsWord_70 (by decide) ?_
        refine lv_icmp_eq (tgt := 81) hx hb dX8_readsWord_71 (by decide) (fun c525 => ?_) (fun c525 => ?_)
        · skip
          have hF := hF.trans (if_pos c525)
          refine lv_aload_n hx hb dX8_readsWord_81 rfl (lv_at hl 3 rfl) ?_
          refine lv_aload_n hx hb dX8_readsWord_82 rfl (lv_at hl 3 rfl) ?_
          refine lv_iload_n hx hb dX8_readsWord_83 rfl (lv_at hl 1 rfl) ?_
          refine lv_iload_n hx hb dX8_readsWord_84 rfl (lv_at hl 0 rfl) ?_
          refine lv_aload_n hx hb dX8_readsWord_85 rfl (lv_at hl 3 rfl) ?_
          refine km_get (ci := 8) (C := RX8) (T := TX8) (N := 23) (t := 30) (i := 0) hx hb hts fi_X8_readsWord_X8 hown hK hw (by decide) (by decide) rfl rfl 12 (by decide) (hts (.fieldLink RX8 95 "WrongWordModel" "value" "I") ow_X8_readsWord_95) rfl dX8_readsWord_86 ?_
          refine lv_bipush (v := 97) hx hb dX8_readsWord_89 (by decide) ?_
          refine lv_isub hx hb dX8_readsWord_91 ?_
          have hs526 : g_X8_isTold v452 r448 r451 ((v452 30 0 12) - 97) ≠ none := fun q => hs (hF.trans (kb_n q _))
          refine km_cI (As := [.int r448, .int r451, .int ((v452 30 0 12) - 97)]) (rest := [.ref (Z.1 30 0)]) (n := 3) (q := (RX8, TX8, 23)) (ci := 8) (t := 30) (i := 0) ⟨hx, hb, hml, hown, hts⟩ (d_X8_isTold l E Z v452 r448 r451 ((v452 30 0 12) - 97) hs526) gX8_readsWord_X8_isTold rfl hV_X8_isTold ⟨Nat.le_of_ble_eq_true rfl, Nat.le_of_ble_eq_true rfl⟩ hK hw (by decide) (by decide) rfl rfl rfl hl.1 rfl (Nat.le_of_ble_eq_true rfl) dX8_readsWord_92 rfl rfl (fun r527 v528 H locs hp hw => ?_)
          obtain ⟨hp, hzr527⟩ := hp
          obtain ⟨hp, rfl⟩ := hp
          have hF := hF.trans (kb_some hp _)
          refine lv_if_ne (tgt := 102) hx hb dX8_readsWord_95 (by decide) (fun c529 => ?_) (fun c529 => ?_)
          · skip
            have hF := hF.trans (if_neg c529)
            refine lv_iconst (v := 0) hx hb dX8_readsWord_102 (by decide) ?_
            refine lv_iconst (v := 2) hx hb dX8_readsWord_103 (by decide) ?_
            have hs530 : g_X8_takes v452 0 2 ≠ none := fun q => hs (hF.trans (kb2_n q _))
            refine km_cI (As := [.int 0, .int 2]) (rest := []) (n := 2) (q := (RX8, TX8, 23)) (ci := 8) (t := 30) (i := 0) ⟨hx, hb, hml, hown, hts⟩ (d_X8_takes l E Z v452 0 2 hs530) gX8_readsWord_X8_takes rfl hV_X8_takes ⟨Nat.le_of_ble_eq_true rfl, Nat.le_of_ble_eq_true rfl⟩ hK hw (by decide) (by decide) rfl rfl rfl hl.1 rfl (Nat.le_of_ble_eq_true rfl) dX8_readsWord_104 rfl rfl (fun r531 v532 H locs hp hw => ?_)
            have hF := hF.trans (kb2_some hp _)
            refine lv_bipush (v := 97) hx hb dX8_readsWord_107 (by decide) ?_
            refine lv_isub hx hb dX8_readsWord_109 ?_
            refine lv_istore (lv' := [(4, .int (r531 - 97)), (3, .int r451), (2, .int r448), (1, .int ((8 : Int32) + ((3 : Int32) * 0))), (0, .ref (Z.1 30 0))]) hx hb dX8_readsWord_110 hl (by decide) rfl (fun ls hl => ?_)
            refine lv_aload_n hx hb dX8_readsWord_112 rfl (lv_at hl 4 rfl) ?_
            refine lv_aload_n hx hb dX8_readsWord_113 rfl (lv_at hl 4 rfl) ?_
            refine km_get (ci := 8) (C := RX8) (T := TX8) (N := 23) (t := 30) (i := 0) hx hb hts fi_X8_readsWord_X8 hown hK hw (by decide) (by decide) rfl rfl 11 (by decide) (hts (.fieldLink RX8 98 "WrongWordModel" "token" "I") ow_X8_readsWord_98) rfl dX8_readsWord_114 ?_
            refine lv_iconst (v := 4) hx hb dX8_readsWord_117 (by decide) ?_
            refine lv_icmp_ne (tgt := 125) hx hb dX8_readsWord_118 (by decide) (fun c533 => ?_) (fun c533 => ?_)
            · skip
              have hF := hF.trans (if_neg c533)
              refine lv_iconst (v := 0) hx hb dX8_readsWord_125 (by decide) ?_
              refine lv_iconst (v := 1) hx hb dX8_readsWord_126 (by decide) ?_
              have hs534 : g_X8_takes v532 0 1 ≠ none := fun q => hs (hF.trans (kb2_n q _))
              refine km_cI (As := [.int 0, .int 1]) (rest := []) (n := 2) (q := (RX8, TX8, 23)) (ci := 8) (t := 30) (i := 0) ⟨hx, hb, hml, hown, hts⟩ (d_X8_takes l E Z v532 0 1 hs534) gX8_readsWord_X8_takes rfl hV_X8_takes ⟨Nat.le_of_ble_eq_true rfl, Nat.le_of_ble_eq_true rfl⟩ hK hw (by decide) (by decide) rfl rfl rfl hl.1 rfl (Nat.le_of_ble_eq_true rfl) dX8_readsWord_127 rfl rfl (fun r535 v536 H locs hp hw => ?_)
              have hF := hF.trans (kb2_some hp _)
              refine lv_pop hx hb dX8_readsWord_130 rfl ?_
              refine lv_aload_n hx hb dX8_readsWord_131 rfl (lv_at hl 4 rfl) ?_
              have hs537 : g_X8_isWell v536 ≠ none := fun q => hs (hF.trans (kb_n q _))
              refine km_cI (As := []) (rest := []) (n := 0) (q := (RX8, TX8, 23)) (ci := 8) (t := 30) (i := 0) ⟨hx, hb, hml, hown, hts⟩ (d_X8_isWell l E Z v536  hs537) gX8_readsWord_X8_isWell rfl hV_X8_isWell ⟨Nat.le_of_ble_eq_true rfl, Nat.le_of_ble_eq_true rfl⟩ hK hw (by decide) (by decide) rfl rfl rfl hl.1 rfl (Nat.le_of_ble_eq_true rfl) dX8_readsWord_132 rfl rfl (fun r538 v539 H locs hp hw => ?_)
              obtain ⟨hp, hzr538⟩ := hp
              obtain ⟨hp, rfl⟩ := hp
              have hF := hF.trans (kb_some hp _)
              refine lv_if_eq (tgt := 174) hx hb dX8_readsWord_135 (by decide) (fun c540 => ?_) (fun c540 => ?_)
              · skip
                have hF := hF.trans (if_pos c540)
                exact hret _ _ _ _ _ hw dX8_readsWord_174 hF
              · skip
                have hF := hF.trans (if_neg c540)
                refine lv_aload_n hx hb dX8_readsWord_138 rfl (lv_at hl 4 rfl) ?_
                refine km_get (ci := 8) (C := RX8) (T := TX8) (N := 23) (t := 30) (i := 0) hx hb hts fi_X8_readsWord_X8 hown hK hw (by decide) (by decide) rfl rfl 14 (by decide) (hts (.fieldLink RX8 28 "WrongWordModel" "draft" "[I") ow_X8_readsWord_28) rfl dX8_readsWord_139 ?_
                refine lv_iload_n hx hb dX8_readsWord_142 rfl (lv_at hl 3 rfl) ?_
                refine lv_iload_n hx hb dX8_readsWord_143 rfl (lv_at hl 2 rfl) ?_
                have hb541 : ¬ ((8 : Int32) + ((3 : Int32) * 0) < 0 ∨ 65 ≤ Int32.toNatClampNeg ((8 : Int32) + ((3 : Int32) * 0))) := fun q => hs (hF.trans (if_pos q))
                have hF := hF.trans (if_neg hb541)
                refine km_iast (t := 37) (i := 0) (n := 65) hx hb hK hw (by decide) (by decide) (fun _ => rfl) hb541 dX8_readsWord_144 (fun H locs hw => ?_)
                obtain ⟨v542, ev542⟩ : ∃ z, z = up3 v536 37 0 (Int32.toNatClampNeg ((8 : Int32) + ((3 : Int32) * 0))) r448 := ⟨_, rfl⟩
                rw [← ev542] at hw
                have hF := hF.trans (kb_some (congrArg some ev542.symm) _)
                refine lv_aload_n hx hb dX8_readsWord_145 rfl (lv_at hl 4 rfl) ?_
                refine km_get (ci := 8) (C := RX8) (T := TX8) (N := 23) (t := 30) (i := 0) hx hb hts fi_X8_readsWord_X8 hown hK hw (by decide) (by decide) rfl rfl 14 (by decide) (hts (.fieldLink RX8 28 "WrongWordModel" "draft" "[I") ow_X8_readsWord_28) rfl dX8_readsWord_146 ?_
                refine lv_iload_n hx hb dX8_readsWord_149 rfl (lv_at hl 3 rfl) ?_
                refine lv_iconst (v := 1) hx hb dX8_readsWord_150 (by decide) ?_
                refine lv_iadd hx hb dX8_readsWord_151 ?_
                refine lv_iload_n hx hb dX8_readsWord_152 rfl (lv_at hl 1 rfl) ?_
                have hb543 : ¬ (((8 : Int32) + ((3 : Int32) * 0)) + 1 < 0 ∨ 65 ≤ Int32.toNatClampNeg (((8 : Int32) + ((3 : Int32) * 0)) + 1)) := fun q => hs (hF.trans (if_pos q))
                have hF := hF.trans (if_neg hb543)
                refine km_iast (t := 37) (i := 0) (n := 65) hx hb hK hw (by decide) (by decide) (fun _ => rfl) hb543 dX8_readsWord_153 (fun H locs hw => ?_)
                obtain ⟨v544, ev544⟩ : ∃ z, z = up3 v542 37 0 (Int32.toNatClampNeg (((8 : Int32) + ((3 : Int32) * 0)) + 1)) r451 := ⟨_, rfl⟩
                rw [← ev544] at hw
                have hF := hF.trans (kb_some (congrArg some ev544.symm) _)
                refine lv_aload_n hx hb dX8_readsWord_154 rfl (lv_at hl 4 rfl) ?_
                refine km_get (ci := 8) (C := RX8) (T := TX8) (N := 23) (t := 30) (i := 0) hx hb hts fi_X8_readsWord_X8 hown hK hw (by decide) (by decide) rfl rfl 14 (by decide) (hts (.fieldLink RX8 28 "WrongWordModel" "draft" "[I") ow_X8_readsWord_28) rfl dX8_readsWord_155 ?_
                refine lv_iload_n hx hb dX8_readsWord_158 rfl (lv_at hl 3 rfl) ?_
                refine lv_iconst (v := 2) hx hb dX8_readsWord_159 (by decide) ?_
                refine lv_iadd hx hb dX8_readsWord_160 ?_
                refine lv_iload hx hb dX8_readsWord_161 (lv_at hl 0 rfl) ?_
                have hb545 : ¬ (((8 : Int32) + ((3 : Int32) * 0)) + 2 < 0 ∨ 65 ≤ Int32.toNatClampNeg (((8 : Int32) + ((3 : Int32) * 0)) + 2)) := fun q => hs (hF.trans (if_pos q))
                have hF := hF.trans (if_neg hb545)
                refine km_iast (t := 37) (i := 0) (n := 65) hx hb hK hw (by decide) (by decide) (fun _ => rfl) hb545 dX8_readsWord_163 (fun H locs hw => ?_)
                obtain ⟨v546, ev546⟩ : ∃ z, z = up3 v544 37 0 (Int32.toNatClampNeg (((8 : Int32) + ((3 : Int32) * 0)) + 2)) (r531 - 97) := ⟨_, rfl⟩
                rw [← ev546] at hw
                have hF := hF.trans (kb_some (congrArg some ev546.symm) _)
                refine lv_aload_n hx hb dX8_readsWord_164 rfl (lv_at hl 4 rfl) ?_
                refine km_get (ci := 8) (C := RX8) (T := TX8) (N := 23) (t := 30) (i := 0) hx hb hts fi_X8_readsWord_X8 hown hK hw (by decide) (by decide) rfl rfl 14 (by decide) (hts (.fieldLink RX8 28 "WrongWordModel" "draft" "[I") ow_X8_readsWord_28) rfl dX8_readsWord_165 ?_
                refine lv_iconst (v := 3) hx hb dX8_readsWord_168 (by decide) ?_
                refine lv_dup2_11 hx hb dX8_readsWord_169 rfl rfl ?_
                refine km_iald (t := 37) (i := 0) hx hb hK hw (by decide) (by decide) rfl (by unfold vp_in; decide) dX8_readsWord_170 ?_
                refine lv_iconst (v := 1) hx hb dX8_readsWord_171 (by decide) ?_
                refine lv_iadd hx hb dX8_readsWord_172 ?_
                refine km_iast (t := 37) (i := 0) (n := 65) hx hb hK hw (by decide) (by decide) (fun _ => rfl) (by unfold vp_in; decide) dX8_readsWord_173 (fun H locs hw => ?_)
                obtain ⟨v547, ev547⟩ : ∃ z, z = up3 v546 37 0 (Int32.toNatClampNeg 3) ((v546 37 0 (Int32.toNatClampNeg 3)) + 1) := ⟨_, rfl⟩
                rw [← ev547] at hw
                have hF := hF.trans (kb_some (congrArg some ev547.symm) _)
                exact hret _ _ _ _ _ hw dX8_readsWord_174 hF
            · skip
              have hF := hF.trans (if_pos c533)
              refine lv_iconst (v := 1) hx hb dX8_readsWord_121 (by decide) ?_
              refine lv_goto (tgt := 126) hx hb dX8_readsWord_122 (by decide) ?_
              refine lv_iconst (v := 1) hx hb dX8_readsWord_126 (by decide) ?_
              have hs548 : g_X8_takes v532 1 1 ≠ none := fun q => hs (hF.trans (kb2_n q _))
              refine km_cI (As := [.int 1, .int 1]) (rest := []) (n := 2) (q := (RX8, TX8, 23)) (ci := 8) (t := 30) (i := 0) ⟨hx, hb, hml, hown, hts⟩ (d_X8_takes l E Z v532 1 1 hs548) gX8_readsWord_X8_takes rfl hV_X8_takes ⟨Nat.le_of_ble_eq_true rfl, Nat.le_of_ble_eq_true rfl⟩ hK hw (by decide) (by decide) rfl rfl rfl hl.1 rfl (Nat.le_of_ble_eq_true rfl) dX8_readsWord_127 rfl rfl (fun r549 v550 H locs hp hw => ?_)
              have hF := hF.trans (kb2_some hp _)
              refine lv_pop hx hb dX8_readsWord_130 rfl ?_
              refine lv_aload_n hx hb dX8_readsWord_131 rfl (lv_at hl 4 rfl) ?_
              have hs551 : g_X8_isWell v550 ≠ none := fun q => hs (hF.trans (kb_n q _))
              refine km_cI (As := []) (rest := []) (n := 0) (q := (RX8, TX8, 23)) (ci := 8) (t := 30) (i := 0) ⟨hx, hb, hml, hown, hts⟩ (d_X8_isWell l E Z v550  hs551) gX8_readsWord_X8_isWell rfl hV_X8_isWell ⟨Nat.le_of_ble_eq_true rfl, Nat.le_of_ble_eq_true rfl⟩ hK hw (by decide) (by decide) rfl rfl rfl hl.1 rfl (Nat.le_of_ble_eq_true rfl) dX8_readsWord_132 rfl rfl (fun r552 v553 H locs hp hw => ?_)
              obtain ⟨hp, hzr552⟩ := hp
              obtain ⟨hp, rfl⟩ := hp
              have hF := hF.trans (kb_some hp _)
              refine lv_if_eq (tgt := 174) hx hb dX8_readsWord_135 (by decide) (fun c554 => ?_) (fun c554 => ?_)
              · skip
                have hF := hF.trans (if_pos c554)
                exact hret _ _ _ _ _ hw dX8_readsWord_174 hF
              · skip
                have hF := hF.trans (if_neg c554)
                refine lv_aload_n hx hb dX8_readsWord_138 rfl (lv_at hl 4 rfl) ?_
                refine km_get (ci := 8) (C := RX8) (T := TX8) (N := 23) (t := 30) (i := 0) hx hb hts fi_X8_readsWord_X8 hown hK hw (by decide) (by decide) rfl rfl 14 (by decide) (hts (.fieldLink RX8 28 "WrongWordModel" "draft" "[I") ow_X8_readsWord_28) rfl dX8_readsWord_139 ?_
                refine lv_iload_n hx hb dX8_readsWord_142 rfl (lv_at hl 3 rfl) ?_
                refine lv_iload_n hx hb dX8_readsWord_143 rfl (lv_at hl 2 rfl) ?_
                have hb555 : ¬ ((8 : Int32) + ((3 : Int32) * 0) < 0 ∨ 65 ≤ Int32.toNatClampNeg ((8 : Int32) + ((3 : Int32) * 0))) := fun q => hs (hF.trans (if_pos q))
                have hF := hF.trans (if_neg hb555)
                refine km_iast (t := 37) (i := 0) (n := 65) hx hb hK hw (by decide) (by decide) (fun _ => rfl) hb555 dX8_readsWord_144 (fun H locs hw => ?_)
                obtain ⟨v556, ev556⟩ : ∃ z, z = up3 v550 37 0 (Int32.toNatClampNeg ((8 : Int32) + ((3 : Int32) * 0))) r448 := ⟨_, rfl⟩
                rw [← ev556] at hw
                have hF := hF.trans (kb_some (congrArg some ev556.symm) _)
                refine lv_aload_n hx hb dX8_readsWord_145 rfl (lv_at hl 4 rfl) ?_
                refine km_get (ci := 8) (C := RX8) (T := TX8) (N := 23) (t := 30) (i := 0) hx hb hts fi_X8_readsWord_X8 hown hK hw (by decide) (by decide) rfl rfl 14 (by decide) (hts (.fieldLink RX8 28 "WrongWordModel" "draft" "[I") ow_X8_readsWord_28) rfl dX8_readsWord_146 ?_
                refine lv_iload_n hx hb dX8_readsWord_149 rfl (lv_at hl 3 rfl) ?_
                refine lv_iconst (v := 1) hx hb dX8_readsWord_150 (by decide) ?_
                refine lv_iadd hx hb dX8_readsWord_151 ?_
                refine lv_iload_n hx hb dX8_readsWord_152 rfl (lv_at hl 1 rfl) ?_
                have hb557 : ¬ (((8 : Int32) + ((3 : Int32) * 0)) + 1 < 0 ∨ 65 ≤ Int32.toNatClampNeg (((8 : Int32) + ((3 : Int32) * 0)) + 1)) := fun q => hs (hF.trans (if_pos q))
                have hF := hF.trans (if_neg hb557)
                refine km_iast (t := 37) (i := 0) (n := 65) hx hb hK hw (by decide) (by decide) (fun _ => rfl) hb557 dX8_readsWord_153 (fun H locs hw => ?_)
                obtain ⟨v558, ev558⟩ : ∃ z, z = up3 v556 37 0 (Int32.toNatClampNeg (((8 : Int32) + ((3 : Int32) * 0)) + 1)) r451 := ⟨_, rfl⟩
                rw [← ev558] at hw
                have hF := hF.trans (kb_some (congrArg some ev558.symm) _)
                refine lv_aload_n hx hb dX8_readsWord_154 rfl (lv_at hl 4 rfl) ?_
                refine km_get (ci := 8) (C := RX8) (T := TX8) (N := 23) (t := 30) (i := 0) hx hb hts fi_X8_readsWord_X8 hown hK hw (by decide) (by decide) rfl rfl 14 (by decide) (hts (.fieldLink RX8 28 "WrongWordModel" "draft" "[I") ow_X8_readsWord_28) rfl dX8_readsWord_155 ?_
                refine lv_iload_n hx hb dX8_readsWord_158 rfl (lv_at hl 3 rfl) ?_
                refine lv_iconst (v := 2) hx hb dX8_readsWord_159 (by decide) ?_
                refine lv_iadd hx hb dX8_readsWord_160 ?_
                refine lv_iload hx hb dX8_readsWord_161 (lv_at hl 0 rfl) ?_
                have hb559 : ¬ (((8 : Int32) + ((3 : Int32) * 0)) + 2 < 0 ∨ 65 ≤ Int32.toNatClampNeg (((8 : Int32) + ((3 : Int32) * 0)) + 2)) := fun q => hs (hF.trans (if_pos q))
                have hF := hF.trans (if_neg hb559)
                refine km_iast (t := 37) (i := 0) (n := 65) hx hb hK hw (by decide) (by decide) (fun _ => rfl) hb559 dX8_readsWord_163 (fun H locs hw => ?_)
                obtain ⟨v560, ev560⟩ : ∃ z, z = up3 v558 37 0 (Int32.toNatClampNeg (((8 : Int32) + ((3 : Int32) * 0)) + 2)) (r531 - 97) := ⟨_, rfl⟩
                rw [← ev560] at hw
                have hF := hF.trans (kb_some (congrArg some ev560.symm) _)
                refine lv_aload_n hx hb dX8_readsWord_164 rfl (lv_at hl 4 rfl) ?_
                refine km_get (ci := 8) (C := RX8) (T := TX8) (N := 23) (t := 30) (i := 0) hx hb hts fi_X8_readsWord_X8 hown hK hw (by decide) (by decide) rfl rfl 14 (by decide) (hts (.fieldLink RX8 28 "WrongWordModel" "draft" "[I") ow_X8_readsWord_28) rfl dX8_readsWord_165 ?_
                refine lv_iconst (v := 3) hx hb dX8_readsWord_168 (by decide) ?_
                refine lv_dup2_11 hx hb dX8_readsWord_169 rfl rfl ?_
                refine km_iald (t := 37) (i := 0) hx hb hK hw (by decide) (by decide) rfl (by unfold vp_in; decide) dX8_readsWord_170 ?_
                refine lv_iconst (v := 1) hx hb dX8_readsWord_171 (by decide) ?_
                refine lv_iadd hx hb dX8_readsWord_172 ?_
                refine km_iast (t := 37) (i := 0) (n := 65) hx hb hK hw (by decide) (by decide) (fun _ => rfl) (by unfold vp_in; decide) dX8_readsWord_173 (fun H locs hw => ?_)
                obtain ⟨v561, ev561⟩ : ∃ z, z = up3 v560 37 0 (Int32.toNatClampNeg 3) ((v560 37 0 (Int32.toNatClampNeg 3)) + 1) := ⟨_, rfl⟩
                rw [← ev561] at hw
                have hF := hF.trans (kb_some (congrArg some ev561.symm) _)
                exact hret _ _ _ _ _ hw dX8_readsWord_174 hF
          · skip
            have hF := hF.trans (if_pos c529)
            refine lv_iconst (v := 1) hx hb dX8_readsWord_98 (by decide) ?_
            refine lv_goto (tgt := 103) hx hb dX8_readsWord_99 (by decide) ?_
            refine lv_iconst (v := 2) hx hb dX8_readsWord_103 (by decide) ?_
            have hs562 : g_X8_takes v452 1 2 ≠ none := fun q => hs (hF.trans (kb2_n q _))
            refine km_cI (As := [.int 1, .int 2]) (rest := []) (n := 2) (q := (RX8, TX8, 23)) (ci := 8) (t := 30) (i := 0) ⟨hx, hb, hml, hown, hts⟩ (d_X8_takes l E Z v452 1 2 hs562) gX8_readsWord_X8_takes rfl hV_X8_takes ⟨Nat.le_of_ble_eq_true rfl, Nat.le_of_ble_eq_true rfl⟩ hK hw (by decide) (by decide) rfl rfl rfl hl.1 rfl (Nat.le_of_ble_eq_true rfl) dX8_readsWord_104 rfl rfl (fun r563 v564 H locs hp hw => ?_)
            have hF := hF.trans (kb2_some hp _)
            refine lv_bipush (v := 97) hx hb dX8_readsWord_107 (by decide) ?_
            refine lv_isub hx hb dX8_readsWord_109 ?_
            refine lv_istore (lv' := [(4, .int (r563 - 97)), (3, .int r451), (2, .int r448), (1, .int ((8 : Int32) + ((3 : Int32) * 0))), (0, .ref (Z.1 30 0))]) hx hb dX8_readsWord_110 hl (by decide) rfl (fun ls hl => ?_)
            refine lv_aload_n hx hb dX8_readsWord_112 rfl (lv_at hl 4 rfl) ?_
            refine lv_aload_n hx hb dX8_readsWord_113 rfl (lv_at hl 4 rfl) ?_
            refine km_get (ci := 8) (C := RX8) (T := TX8) (N := 23) (t := 30) (i := 0) hx hb hts fi_X8_readsWord_X8 hown hK hw (by decide) (by decide) rfl rfl 11 (by decide) (hts (.fieldLink RX8 98 "WrongWordModel" "token" "I") ow_X8_readsWord_98) rfl dX8_readsWord_114 ?_
            refine lv_iconst (v := 4) hx hb dX8_readsWord_117 (by decide) ?_
            refine lv_icmp_ne (tgt := 125) hx hb dX8_readsWord_118 (by decide) (fun c565 => ?_) (fun c565 => ?_)
            · skip
              have hF := hF.trans (if_neg c565)
              refine lv_iconst (v := 0) hx hb dX8_readsWord_125 (by decide) ?_
              refine lv_iconst (v := 1) hx hb dX8_readsWord_126 (by decide) ?_
              have hs566 : g_X8_takes v564 0 1 ≠ none := fun q => hs (hF.trans (kb2_n q _))
              refine km_cI (As := [.int 0, .int 1]) (rest := []) (n := 2) (q := (RX8, TX8, 23)) (ci := 8) (t := 30) (i := 0) ⟨hx, hb, hml, hown, hts⟩ (d_X8_takes l E Z v564 0 1 hs566) gX8_readsWord_X8_takes rfl hV_X8_takes ⟨Nat.le_of_ble_eq_true rfl, Nat.le_of_ble_eq_true rfl⟩ hK hw (by decide) (by decide) rfl rfl rfl hl.1 rfl (Nat.le_of_ble_eq_true rfl) dX8_readsWord_127 rfl rfl (fun r567 v568 H locs hp hw => ?_)
              have hF := hF.trans (kb2_some hp _)
              refine lv_pop hx hb dX8_readsWord_130 rfl ?_
              refine lv_aload_n hx hb dX8_readsWord_131 rfl (lv_at hl 4 rfl) ?_
              have hs569 : g_X8_isWell v568 ≠ none := fun q => hs (hF.trans (kb_n q _))
              refine km_cI (As := []) (rest := []) (n := 0) (q := (RX8, TX8, 23)) (ci := 8) (t := 30) (i := 0) ⟨hx, hb, hml, hown, hts⟩ (d_X8_isWell l E Z v568  hs569) gX8_readsWord_X8_isWell rfl hV_X8_isWell ⟨Nat.le_of_ble_eq_true rfl, Nat.le_of_ble_eq_true rfl⟩ hK hw (by decide) (by decide) rfl rfl rfl hl.1 rfl (Nat.le_of_ble_eq_true rfl) dX8_readsWord_132 rfl rfl (fun r570 v571 H locs hp hw => ?_)
              obtain ⟨hp, hzr570⟩ := hp
              obtain ⟨hp, rfl⟩ := hp
              have hF := hF.trans (kb_some hp _)
              refine lv_if_eq (tgt := 174) hx hb dX8_readsWord_135 (by decide) (fun c572 => ?_) (fun c572 => ?_)
              · skip
                have hF := hF.trans (if_pos c572)
                exact hret _ _ _ _ _ hw dX8_readsWord_174 hF
              · skip
                have hF := hF.trans (if_neg c572)
                refine lv_aload_n hx hb dX8_readsWord_138 rfl (lv_at hl 4 rfl) ?_
                refine km_get (ci := 8) (C := RX8) (T := TX8) (N := 23) (t := 30) (i := 0) hx hb hts fi_X8_readsWord_X8 hown hK hw (by decide) (by decide) rfl rfl 14 (by decide) (hts (.fieldLink RX8 28 "WrongWordModel" "draft" "[I") ow_X8_readsWord_28) rfl dX8_readsWord_139 ?_
                refine lv_iload_n hx hb dX8_readsWord_142 rfl (lv_at hl 3 rfl) ?_
                refine lv_iload_n hx hb dX8_readsWord_143 rfl (lv_at hl 2 rfl) ?_
                have hb573 : ¬ ((8 : Int32) + ((3 : Int32) * 0) < 0 ∨ 65 ≤ Int32.toNatClampNeg ((8 : Int32) + ((3 : Int32) * 0))) := fun q => hs (hF.trans (if_pos q))
                have hF := hF.trans (if_neg hb573)
                refine km_iast (t := 37) (i := 0) (n := 65) hx hb hK hw (by decide) (by decide) (fun _ => rfl) hb573 dX8_readsWord_144 (fun H locs hw => ?_)
                obtain ⟨v574, ev574⟩ : ∃ z, z = up3 v568 37 0 (Int32.toNatClampNeg ((8 : Int32) + ((3 : Int32) * 0))) r448 := ⟨_, rfl⟩
                rw [← ev574] at hw
                have hF := hF.trans (kb_some (congrArg some ev574.symm) _)
                refine lv_aload_n hx hb dX8_readsWord_145 rfl (lv_at hl 4 rfl) ?_
                refine km_get (ci := 8) (C := RX8) (T := TX8) (N := 23) (t := 30) (i := 0) hx hb hts fi_X8_readsWord_X8 hown hK hw (by decide) (by decide) rfl rfl 14 (by decide) (hts (.fieldLink RX8 28 "WrongWordModel" "draft" "[I") ow_X8_readsWord_28) rfl dX8_readsWord_146 ?_
                refine lv_iload_n hx hb dX8_readsWord_149 rfl (lv_at hl 3 rfl) ?_
                refine lv_iconst (v := 1) hx hb dX8_readsWord_150 (by decide) ?_
                refine lv_iadd hx hb dX8_readsWord_151 ?_
                refine lv_iload_n hx hb dX8_readsWord_152 rfl (lv_at hl 1 rfl) ?_
                have hb575 : ¬ (((8 : Int32) + ((3 : Int32) * 0)) + 1 < 0 ∨ 65 ≤ Int32.toNatClampNeg (((8 : Int32) + ((3 : Int32) * 0)) + 1)) := fun q => hs (hF.trans (if_pos q))
                have hF := hF.trans (if_neg hb575)
                refine km_iast (t := 37) (i := 0) (n := 65) hx hb hK hw (by decide) (by decide) (fun _ => rfl) hb575 dX8_readsWord_153 (fun H locs hw => ?_)
                obtain ⟨v576, ev576⟩ : ∃ z, z = up3 v574 37 0 (Int32.toNatClampNeg (((8 : Int32) + ((3 : Int32) * 0)) + 1)) r451 := ⟨_, rfl⟩
                rw [← ev576] at hw
                have hF := hF.trans (kb_some (congrArg some ev576.symm) _)
                refine lv_aload_n hx hb dX8_readsWord_154 rfl (lv_at hl 4 rfl) ?_
                refine km_get (ci := 8) (C := RX8) (T := TX8) (N := 23) (t := 30) (i := 0) hx hb hts fi_X8_readsWord_X8 hown hK hw (by decide) (by decide) rfl rfl 14 (by decide) (hts (.fieldLink RX8 28 "WrongWordModel" "draft" "[I") ow_X8_readsWord_28) rfl dX8_readsWord_155 ?_
                refine lv_iload_n hx hb dX8_readsWord_158 rfl (lv_at hl 3 rfl) ?_
                refine lv_iconst (v := 2) hx hb dX8_readsWord_159 (by decide) ?_
                refine lv_iadd hx hb dX8_readsWord_160 ?_
                refine lv_iload hx hb dX8_readsWord_161 (lv_at hl 0 rfl) ?_
                have hb577 : ¬ (((8 : Int32) + ((3 : Int32) * 0)) + 2 < 0 ∨ 65 ≤ Int32.toNatClampNeg (((8 : Int32) + ((3 : Int32) * 0)) + 2)) := fun q => hs (hF.trans (if_pos q))
                have hF := hF.trans (if_neg hb577)
                refine km_iast (t := 37) (i := 0) (n := 65) hx hb hK hw (by decide) (by decide) (fun _ => rfl) hb577 dX8_readsWord_163 (fun H locs hw => ?_)
                obtain ⟨v578, ev578⟩ : ∃ z, z = up3 v576 37 0 (Int32.toNatClampNeg (((8 : Int32) + ((3 : Int32) * 0)) + 2)) (r563 - 97) := ⟨_, rfl⟩
                rw [← ev578] at hw
                have hF := hF.trans (kb_some (congrArg some ev578.symm) _)
                refine lv_aload_n hx hb dX8_readsWord_164 rfl (lv_at hl 4 rfl) ?_
                refine km_get (ci := 8) (C := RX8) (T := TX8) (N := 23) (t := 30) (i := 0) hx hb hts fi_X8_readsWord_X8 hown hK hw (by decide) (by decide) rfl rfl 14 (by decide) (hts (.fieldLink RX8 28 "WrongWordModel" "draft" "[I") ow_X8_readsWord_28) rfl dX8_readsWord_165 ?_
                refine lv_iconst (v := 3) hx hb dX8_readsWord_168 (by decide) ?_
                refine lv_dup2_11 hx hb dX8_readsWord_169 rfl rfl ?_
                refine km_iald (t := 37) (i := 0) hx hb hK hw (by decide) (by decide) rfl (by unfold vp_in; decide) dX8_readsWord_170 ?_
                refine lv_iconst (v := 1) hx hb dX8_readsWord_171 (by decide) ?_
                refine lv_iadd hx hb dX8_readsWord_172 ?_
                refine km_iast (t := 37) (i := 0) (n := 65) hx hb hK hw (by decide) (by decide) (fun _ => rfl) (by unfold vp_in; decide) dX8_readsWord_173 (fun H locs hw => ?_)
                obtain ⟨v579, ev579⟩ : ∃ z, z = up3 v578 37 0 (Int32.toNatClampNeg 3) ((v578 37 0 (Int32.toNatClampNeg 3)) + 1) := ⟨_, rfl⟩
                rw [← ev579] at hw
                have hF := hF.trans (kb_some (congrArg some ev579.symm) _)
                exact hret _ _ _ _ _ hw dX8_readsWord_174 hF
            · skip
              have hF := hF.trans (if_pos c565)
              refine lv_iconst (v := 1) hx hb dX8_readsWord_121 (by decide) ?_
              refine lv_goto (tgt := 126) hx hb dX8_readsWord_122 (by decide) ?_
              refine lv_iconst (v := 1) hx hb dX8_readsWord_126 (by decide) ?_
              have hs580 : g_X8_takes v564 1 1 ≠ none := fun q => hs (hF.trans (kb2_n q _))
              refine km_cI (As := [.int 1, .int 1]) (rest := []) (n := 2) (q := (RX8, TX8, 23)) (ci := 8) (t := 30) (i := 0) ⟨hx, hb, hml, hown, hts⟩ (d_X8_takes l E Z v564 1 1 hs580) gX8_readsWord_X8_takes rfl hV_X8_takes ⟨Nat.le_of_ble_eq_true rfl, Nat.le_of_ble_eq_true rfl⟩ hK hw (by decide) (by decide) rfl rfl rfl hl.1 rfl (Nat.le_of_ble_eq_true rfl) dX8_readsWord_127 rfl rfl (fun r581 v582 H locs hp hw => ?_)
              have hF := hF.trans (kb2_some hp _)
              refine lv_pop hx hb dX8_readsWord_130 rfl ?_
              refine lv_aload_n hx hb dX8_readsWord_131 rfl (lv_at hl 4 rfl) ?_
              have hs583 : g_X8_isWell v582 ≠ none := fun q => hs (hF.trans (kb_n q _))
              refine km_cI (As := []) (rest := []) (n := 0) (q := (RX8, TX8, 23)) (ci := 8) (t := 30) (i := 0) ⟨hx, hb, hml, hown, hts⟩ (d_X8_isWell l E Z v582  hs583) gX8_readsWord_X8_isWell rfl hV_X8_isWell ⟨Nat.le_of_ble_eq_true rfl, Nat.le_of_ble_eq_true rfl⟩ hK hw (by decide) (by decide) rfl rfl rfl hl.1 rfl (Nat.le_of_ble_eq_true rfl) dX8_readsWord_132 rfl rfl (fun r584 v585 H locs hp hw => ?_)
              obtain ⟨hp, hzr584⟩ := hp
              obtain ⟨hp, rfl⟩ := hp
              have hF := hF.trans (kb_some hp _)
              refine lv_if_eq (tgt := 174) hx hb dX8_readsWord_135 (by decide) (fun c586 => ?_) (fun c586 => ?_)
              · skip
                have hF := hF.trans (if_pos c586)
                exact hret _ _ _ _ _ hw dX8_readsWord_174 hF
              · skip
                have hF := hF.trans (if_neg c586)
                refine lv_aload_n hx hb dX8_readsWord_138 rfl (lv_at hl 4 rfl) ?_
                refine km_get (ci := 8) (C := RX8) (T := TX8) (N := 23) (t := 30) (i := 0) hx hb hts fi_X8_readsWord_X8 hown hK hw (by decide) (by decide) rfl rfl 14 (by decide) (hts (.fieldLink RX8 28 "WrongWordModel" "draft" "[I") ow_X8_readsWord_28) rfl dX8_readsWord_139 ?_
                refine lv_iload_n hx hb dX8_readsWord_142 rfl (lv_at hl 3 rfl) ?_
                refine lv_iload_n hx hb dX8_readsWord_143 rfl (lv_at hl 2 rfl) ?_
                have hb587 : ¬ ((8 : Int32) + ((3 : Int32) * 0) < 0 ∨ 65 ≤ Int32.toNatClampNeg ((8 : Int32) + ((3 : Int32) * 0))) := fun q => hs (hF.trans (if_pos q))
                have hF := hF.trans (if_neg hb587)
                refine km_iast (t := 37) (i := 0) (n := 65) hx hb hK hw (by decide) (by decide) (fun _ => rfl) hb587 dX8_readsWord_144 (fun H locs hw => ?_)
                obtain ⟨v588, ev588⟩ : ∃ z, z = up3 v582 37 0 (Int32.toNatClampNeg ((8 : Int32) + ((3 : Int32) * 0))) r448 := ⟨_, rfl⟩
                rw [← ev588] at hw
                have hF := hF.trans (kb_some (congrArg some ev588.symm) _)
                refine lv_aload_n hx hb dX8_readsWord_145 rfl (lv_at hl 4 rfl) ?_
                refine km_get (ci := 8) (C := RX8) (T := TX8) (N := 23) (t := 30) (i := 0) hx hb hts fi_X8_readsWord_X8 hown hK hw (by decide) (by decide) rfl rfl 14 (by decide) (hts (.fieldLink RX8 28 "WrongWordModel" "draft" "[I") ow_X8_readsWord_28) rfl dX8_readsWord_146 ?_
                refine lv_iload_n hx hb dX8_readsWord_149 rfl (lv_at hl 3 rfl) ?_
                refine lv_iconst (v := 1) hx hb dX8_readsWord_150 (by decide) ?_
                refine lv_iadd hx hb dX8_readsWord_151 ?_
                refine lv_iload_n hx hb dX8_readsWord_152 rfl (lv_at hl 1 rfl) ?_
                have hb589 : ¬ (((8 : Int32) + ((3 : Int32) * 0)) + 1 < 0 ∨ 65 ≤ Int32.toNatClampNeg (((8 : Int32) + ((3 : Int32) * 0)) + 1)) := fun q => hs (hF.trans (if_pos q))
                have hF := hF.trans (if_neg hb589)
                refine km_iast (t := 37) (i := 0) (n := 65) hx hb hK hw (by decide) (by decide) (fun _ => rfl) hb589 dX8_readsWord_153 (fun H locs hw => ?_)
                obtain ⟨v590, ev590⟩ : ∃ z, z = up3 v588 37 0 (Int32.toNatClampNeg (((8 : Int32) + ((3 : Int32) * 0)) + 1)) r451 := ⟨_, rfl⟩
                rw [← ev590] at hw
                have hF := hF.trans (kb_some (congrArg some ev590.symm) _)
                refine lv_aload_n hx hb dX8_readsWord_154 rfl (lv_at hl 4 rfl) ?_
                refine km_get (ci := 8) (C := RX8) (T := TX8) (N := 23) (t := 30) (i := 0) hx hb hts fi_X8_readsWord_X8 hown hK hw (by decide) (by decide) rfl rfl 14 (by decide) (hts (.fieldLink RX8 28 "WrongWordModel" "draft" "[I") ow_X8_readsWord_28) rfl dX8_readsWord_155 ?_
                refine lv_iload_n hx hb dX8_readsWord_158 rfl (lv_at hl 3 rfl) ?_
                refine lv_iconst (v := 2) hx hb dX8_readsWord_159 (by decide) ?_
                refine lv_iadd hx hb dX8_readsWord_160 ?_
                refine lv_iload hx hb dX8_readsWord_161 (lv_at hl 0 rfl) ?_
                have hb591 : ¬ (((8 : Int32) + ((3 : Int32) * 0)) + 2 < 0 ∨ 65 ≤ Int32.toNatClampNeg (((8 : Int32) + ((3 : Int32) * 0)) + 2)) := fun q => hs (hF.trans (if_pos q))
                have hF := hF.trans (if_neg hb591)
                refine km_iast (t := 37) (i := 0) (n := 65) hx hb hK hw (by decide) (by decide) (fun _ => rfl) hb591 dX8_readsWord_163 (fun H locs hw => ?_)
                obtain ⟨v592, ev592⟩ : ∃ z, z = up3 v590 37 0 (Int32.toNatClampNeg (((8 : Int32) + ((3 : Int32) * 0)) + 2)) (r563 - 97) := ⟨_, rfl⟩
                rw [← ev592] at hw
                have hF := hF.trans (kb_some (congrArg some ev592.symm) _)
                refine lv_aload_n hx hb dX8_readsWord_164 rfl (lv_at hl 4 rfl) ?_
                refine km_get (ci := 8) (C := RX8) (T := TX8) (N := 23) (t := 30) (i := 0) hx hb hts fi_X8_readsWord_X8 hown hK hw (by decide) (by decide) rfl rfl 14 (by decide) (hts (.fieldLink RX8 28 "WrongWordModel" "draft" "[I") ow_X8_readsWord_28) rfl dX8_readsWord_165 ?_
                refine lv_iconst (v := 3) hx hb dX8_readsWord_168 (by decide) ?_
                refine lv_dup2_11 hx hb dX8_readsWord_169 rfl rfl ?_
                refine km_iald (t := 37) (i := 0) hx hb hK hw (by decide) (by decide) rfl (by unfold vp_in; decide) dX8_readsWord_170 ?_
                refine lv_iconst (v := 1) hx hb dX8_readsWord_171 (by decide) ?_
                refine lv_iadd hx hb dX8_readsWord_172 ?_
                refine km_iast (t := 37) (i := 0) (n := 65) hx hb hK hw (by decide) (by decide) (fun _ => rfl) (by unfold vp_in; decide) dX8_readsWord_173 (fun H locs hw => ?_)
                obtain ⟨v593, ev593⟩ : ∃ z, z = up3 v592 37 0 (Int32.toNatClampNeg 3) ((v592 37 0 (Int32.toNatClampNeg 3)) + 1) := ⟨_, rfl⟩
                rw [← ev593] at hw
                have hF := hF.trans (kb_some (congrArg some ev593.symm) _)
                exact hret _ _ _ _ _ hw dX8_readsWord_174 hF
        · skip
          have hF := hF.trans (if_neg c525)
          refine lv_aload_n hx hb dX8_readsWord_74 rfl (lv_at hl 3 rfl) ?_
          refine lv_iconst (v := 0) hx hb dX8_readsWord_75 (by decide) ?_
          refine lv_iconst (v := 1) hx hb dX8_readsWord_76 (by decide) ?_
          have hs594 : g_X8_takes v452 0 1 ≠ none := fun q => hs (hF.trans (kb2_n q _))
          refine km_cI (As := [.int 0, .int 1]) (rest := []) (n := 2) (q := (RX8, TX8, 23)) (ci := 8) (t := 30) (i := 0) ⟨hx, hb, hml, hown, hts⟩ (d_X8_takes l E Z v452 0 1 hs594) gX8_readsWord_X8_takes rfl hV_X8_takes ⟨Nat.le_of_ble_eq_true rfl, Nat.le_of_ble_eq_true rfl⟩ hK hw (by decide) (by decide) rfl rfl rfl hl.1 rfl (Nat.le_of_ble_eq_true rfl) dX8_readsWord_77 rfl rfl (fun r595 v596 H locs hp hw => ?_)
          have hF := hF.trans (kb2_some hp _)
          refine lv_pop hx hb dX8_readsWord_80 rfl ?_
          refine lv_aload_n hx hb dX8_readsWord_81 rfl (lv_at hl 3 rfl) ?_
          refine lv_aload_n hx hb dX8_readsWord_82 rfl (lv_at hl 3 rfl) ?_
          refine lv_iload_n hx hb dX8_readsWord_83 rfl (lv_at hl 1 rfl) ?_
          refine lv_iload_n hx hb dX8_readsWord_84 rfl (lv_at hl 0 rfl) ?_
          refine lv_aload_n hx hb dX8_readsWord_85 rfl (lv_at hl 3 rfl) ?_
          refine km_get (ci := 8) (C := RX8) (T := TX8) (N := 23) (t := 30) (i := 0) hx hb hts fi_X8_readsWord_X8 hown hK hw (by decide) (by decide) rfl rfl 12 (by decide) (hts (.fieldLink RX8 95 "WrongWordModel" "value" "I") ow_X8_readsWord_95) rfl dX8_readsWord_86 ?_
          refine lv_bipush (v := 97) hx hb dX8_readsWord_89 (by decide) ?_
          refine lv_isub hx hb dX8_readsWord_91 ?_
          have hs597 : g_X8_isTold v596 r448 r451 ((v596 30 0 12) - 97) ≠ none := fun q => hs (hF.trans (kb_n q _))
          refine km_cI (As := [.int r448, .int r451, .int ((v596 30 0 12) - 97)]) (rest := [.ref (Z.1 30 0)]) (n := 3) (q := (RX8, TX8, 23)) (ci := 8) (t := 30) (i := 0) ⟨hx, hb, hml, hown, hts⟩ (d_X8_isTold l E Z v596 r448 r451 ((v596 30 0 12) - 97) hs597) gX8_readsWord_X8_isTold rfl hV_X8_isTold ⟨Nat.le_of_ble_eq_true rfl, Nat.le_of_ble_eq_true rfl⟩ hK hw (by decide) (by decide) rfl rfl rfl hl.1 rfl (Nat.le_of_ble_eq_true rfl) dX8_readsWord_92 rfl rfl (fun r598 v599 H locs hp hw => ?_)
          obtain ⟨hp, hzr598⟩ := hp
          obtain ⟨hp, rfl⟩ := hp
          have hF := hF.trans (kb_some hp _)
          refine lv_if_ne (tgt := 102) hx hb dX8_readsWord_95 (by decide) (fun c600 => ?_) (fun c600 => ?_)
          · skip
            have hF := hF.trans (if_neg c600)
            refine lv_iconst (v := 0) hx hb dX8_readsWord_102 (by decide) ?_
            refine lv_iconst (v := 2) hx hb dX8_readsWord_103 (by decide) ?_
            have hs601 : g_X8_takes v596 0 2 ≠ none := fun q => hs (hF.trans (kb2_n q _))
            refine km_cI (As := [.int 0, .int 2]) (rest := []) (n := 2) (q := (RX8, TX8, 23)) (ci := 8) (t := 30) (i := 0) ⟨hx, hb, hml, hown, hts⟩ (d_X8_takes l E Z v596 0 2 hs601) gX8_readsWord_X8_takes rfl hV_X8_takes ⟨Nat.le_of_ble_eq_true rfl, Nat.le_of_ble_eq_true rfl⟩ hK hw (by decide) (by decide) rfl rfl rfl hl.1 rfl (Nat.le_of_ble_eq_true rfl) dX8_readsWord_104 rfl rfl (fun r602 v603 H locs hp hw => ?_)
            have hF := hF.trans (kb2_some hp _)
            refine lv_bipush (v := 97) hx hb dX8_readsWord_107 (by decide) ?_
            refine lv_isub hx hb dX8_readsWord_109 ?_
            refine lv_istore (lv' := [(4, .int (r602 - 97)), (3, .int r451), (2, .int r448), (1, .int ((8 : Int32) + ((3 : Int32) * 0))), (0, .ref (Z.1 30 0))]) hx hb dX8_readsWord_110 hl (by decide) rfl (fun ls hl => ?_)
            refine lv_aload_n hx hb dX8_readsWord_112 rfl (lv_at hl 4 rfl) ?_
            refine lv_aload_n hx hb dX8_readsWord_113 rfl (lv_at hl 4 rfl) ?_
            refine km_get (ci := 8) (C := RX8) (T := TX8) (N := 23) (t := 30) (i := 0) hx hb hts fi_X8_readsWord_X8 hown hK hw (by decide) (by decide) rfl rfl 11 (by decide) (hts (.fieldLink RX8 98 "WrongWordModel" "token" "I") ow_X8_readsWord_98) rfl dX8_readsWord_114 ?_
            refine lv_iconst (v := 4) hx hb dX8_readsWord_117 (by decide) ?_
            refine lv_icmp_ne (tgt := 125) hx hb dX8_readsWord_118 (by decide) (fun c604 => ?_) (fun c604 => ?_)
            · skip
              have hF := hF.trans (if_neg c604)
              refine lv_iconst (v := 0) hx hb dX8_readsWord_125 (by decide) ?_
              refine lv_iconst (v := 1) hx hb dX8_readsWord_126 (by decide) ?_
              have hs605 : g_X8_takes v603 0 1 ≠ none := fun q => hs (hF.trans (kb2_n q _))
              refine km_cI (As := [.int 0, .int 1]) (rest := []) (n := 2) (q := (RX8, TX8, 23)) (ci := 8) (t := 30) (i := 0) ⟨hx, hb, hml, hown, hts⟩ (d_X8_takes l E Z v603 0 1 hs605) gX8_readsWord_X8_takes rfl hV_X8_takes ⟨Nat.le_of_ble_eq_true rfl, Nat.le_of_ble_eq_true rfl⟩ hK hw (by decide) (by decide) rfl rfl rfl hl.1 rfl (Nat.le_of_ble_eq_true rfl) dX8_readsWord_127 rfl rfl (fun r606 v607 H locs hp hw => ?_)
              have hF := hF.trans (kb2_some hp _)
              refine lv_pop hx hb dX8_readsWord_130 rfl ?_
              refine lv_aload_n hx hb dX8_readsWord_131 rfl (lv_at hl 4 rfl) ?_
              have hs608 : g_X8_isWell v607 ≠ none := fun q => hs (hF.trans (kb_n q _))
              refine km_cI (As := []) (rest := []) (n := 0) (q := (RX8, TX8, 23)) (ci := 8) (t := 30) (i := 0) ⟨hx, hb, hml, hown, hts⟩ (d_X8_isWell l E Z v607  hs608) gX8_readsWord_X8_isWell rfl hV_X8_isWell ⟨Nat.le_of_ble_eq_true rfl, Nat.le_of_ble_eq_true rfl⟩ hK hw (by decide) (by decide) rfl rfl rfl hl.1 rfl (Nat.le_of_ble_eq_true rfl) dX8_readsWord_132 rfl rfl (fun r609 v610 H locs hp hw => ?_)
              obtain ⟨hp, hzr609⟩ := hp
              obtain ⟨hp, rfl⟩ := hp
              have hF := hF.trans (kb_some hp _)
              refine lv_if_eq (tgt := 174) hx hb dX8_readsWord_135 (by decide) (fun c611 => ?_) (fun c611 => ?_)
              · skip
                have hF := hF.trans (if_pos c611)
                exact hret _ _ _ _ _ hw dX8_readsWord_174 hF
              · skip
                have hF := hF.trans (if_neg c611)
                refine lv_aload_n hx hb dX8_readsWord_138 rfl (lv_at hl 4 rfl) ?_
                refine km_get (ci := 8) (C := RX8) (T := TX8) (N := 23) (t := 30) (i := 0) hx hb hts fi_X8_readsWord_X8 hown hK hw (by decide) (by decide) rfl rfl 14 (by decide) (hts (.fieldLink RX8 28 "WrongWordModel" "draft" "[I") ow_X8_readsWord_28) rfl dX8_readsWord_139 ?_
                refine lv_iload_n hx hb dX8_readsWord_142 rfl (lv_at hl 3 rfl) ?_
                refine lv_iload_n hx hb dX8_readsWord_143 rfl (lv_at hl 2 rfl) ?_
                have hb612 : ¬ ((8 : Int32) + ((3 : Int32) * 0) < 0 ∨ 65 ≤ Int32.toNatClampNeg ((8 : Int32) + ((3 : Int32) * 0))) := fun q => hs (hF.trans (if_pos q))
                have hF := hF.trans (if_neg hb612)
                refine km_iast (t := 37) (i := 0) (n := 65) hx hb hK hw (by decide) (by decide) (fun _ => rfl) hb612 dX8_readsWord_144 (fun H locs hw => ?_)
                obtain ⟨v613, ev613⟩ : ∃ z, z = up3 v607 37 0 (Int32.toNatClampNeg ((8 : Int32) + ((3 : Int32) * 0))) r448 := ⟨_, rfl⟩
                rw [← ev613] at hw
                have hF := hF.trans (kb_some (congrArg some ev613.symm) _)
                refine lv_aload_n hx hb dX8_readsWord_145 rfl (lv_at hl 4 rfl) ?_
                refine km_get (ci := 8) (C := RX8) (T := TX8) (N := 23) (t := 30) (i := 0) hx hb hts fi_X8_readsWord_X8 hown hK hw (by decide) (by decide) rfl rfl 14 (by decide) (hts (.fieldLink RX8 28 "WrongWordModel" "draft" "[I") ow_X8_readsWord_28) rfl dX8_readsWord_146 ?_
                refine lv_iload_n hx hb dX8_readsWord_149 rfl (lv_at hl 3 rfl) ?_
                refine lv_iconst (v := 1) hx hb dX8_readsWord_150 (by decide) ?_
                refine lv_iadd hx hb dX8_readsWord_151 ?_
                refine lv_iload_n hx hb dX8_readsWord_152 rfl (lv_at hl 1 rfl) ?_
                have hb614 : ¬ (((8 : Int32) + ((3 : Int32) * 0)) + 1 < 0 ∨ 65 ≤ Int32.toNatClampNeg (((8 : Int32) + ((3 : Int32) * 0)) + 1)) := fun q => hs (hF.trans (if_pos q))
                have hF := hF.trans (if_neg hb614)
                refine km_iast (t := 37) (i := 0) (n := 65) hx hb hK hw (by decide) (by decide) (fun _ => rfl) hb614 dX8_readsWord_153 (fun H locs hw => ?_)
                obtain ⟨v615, ev615⟩ : ∃ z, z = up3 v613 37 0 (Int32.toNatClampNeg (((8 : Int32) + ((3 : Int32) * 0)) + 1)) r451 := ⟨_, rfl⟩
                rw [← ev615] at hw
                have hF := hF.trans (kb_some (congrArg some ev615.symm) _)
                refine lv_aload_n hx hb dX8_readsWord_154 rfl (lv_at hl 4 rfl) ?_
                refine km_get (ci := 8) (C := RX8) (T := TX8) (N := 23) (t := 30) (i := 0) hx hb hts fi_X8_readsWord_X8 hown hK hw (by decide) (by decide) rfl rfl 14 (by decide) (hts (.fieldLink RX8 28 "WrongWordModel" "draft" "[I") ow_X8_readsWord_28) rfl dX8_readsWord_155 ?_
                refine lv_iload_n hx hb dX8_readsWord_158 rfl (lv_at hl 3 rfl) ?_
                refine lv_iconst (v := 2) hx hb dX8_readsWord_159 (by decide) ?_
                refine lv_iadd hx hb dX8_readsWord_160 ?_
                refine lv_iload hx hb dX8_readsWord_161 (lv_at hl 0 rfl) ?_
                have hb616 : ¬ (((8 : Int32) + ((3 : Int32) * 0)) + 2 < 0 ∨ 65 ≤ Int32.toNatClampNeg (((8 : Int32) + ((3 : Int32) * 0)) + 2)) := fun q => hs (hF.trans (if_pos q))
                have hF := hF.trans (if_neg hb616)
                refine km_iast (t := 37) (i := 0) (n := 65) hx hb hK hw (by decide) (by decide) (fun _ => rfl) hb616 dX8_readsWord_163 (fun H locs hw => ?_)
                obtain ⟨v617, ev617⟩ : ∃ z, z = up3 v615 37 0 (Int32.toNatClampNeg (((8 : Int32) + ((3 : Int32) * 0)) + 2)) (r602 - 97) := ⟨_, rfl⟩
                rw [← ev617] at hw
                have hF := hF.trans (kb_some (congrArg some ev617.symm) _)
                refine lv_aload_n hx hb dX8_readsWord_164 rfl (lv_at hl 4 rfl) ?_
                refine km_get (ci := 8) (C := RX8) (T := TX8) (N := 23) (t := 30) (i := 0) hx hb hts fi_X8_readsWord_X8 hown hK hw (by decide) (by decide) rfl rfl 14 (by decide) (hts (.fieldLink RX8 28 "WrongWordModel" "draft" "[I") ow_X8_readsWord_28) rfl dX8_readsWord_165 ?_
                refine lv_iconst (v := 3) hx hb dX8_readsWord_168 (by decide) ?_
                refine lv_dup2_11 hx hb dX8_readsWord_169 rfl rfl ?_
                refine km_iald (t := 37) (i := 0) hx hb hK hw (by decide) (by decide) rfl (by unfold vp_in; decide) dX8_readsWord_170 ?_
                refine lv_iconst (v := 1) hx hb dX8_readsWord_171 (by decide) ?_
                refine lv_iadd hx hb dX8_readsWord_172 ?_
                refine km_iast (t := 37) (i := 0) (n := 65) hx hb hK hw (by decide) (by decide) (fun _ => rfl) (by unfold vp_in; decide) dX8_readsWord_173 (fun H locs hw => ?_)
                obtain ⟨v618, ev618⟩ : ∃ z, z = up3 v617 37 0 (Int32.toNatClampNeg 3) ((v617 37 0 (Int32.toNatClampNeg 3)) + 1) := ⟨_, rfl⟩
                rw [← ev618] at hw
                have hF := hF.trans (kb_some (congrArg some ev618.symm) _)
                exact hret _ _ _ _ _ hw dX8_readsWord_174 hF
            · skip
              have hF := hF.trans (if_pos c604)
              refine lv_iconst (v := 1) hx hb dX8_readsWord_121 (by decide) ?_
              refine lv_goto (tgt := 126) hx hb dX8_readsWord_122 (by decide) ?_
              refine lv_iconst (v := 1) hx hb dX8_readsWord_126 (by decide) ?_
              have hs619 : g_X8_takes v603 1 1 ≠ none := fun q => hs (hF.trans (kb2_n q _))
              refine km_cI (As := [.int 1, .int 1]) (rest := []) (n := 2) (q := (RX8, TX8, 23)) (ci := 8) (t := 30) (i := 0) ⟨hx, hb, hml, hown, hts⟩ (d_X8_takes l E Z v603 1 1 hs619) gX8_readsWord_X8_takes rfl hV_X8_takes ⟨Nat.le_of_ble_eq_true rfl, Nat.le_of_ble_eq_true rfl⟩ hK hw (by decide) (by decide) rfl rfl rfl hl.1 rfl (Nat.le_of_ble_eq_true rfl) dX8_readsWord_127 rfl rfl (fun r620 v621 H locs hp hw => ?_)
              have hF := hF.trans (kb2_some hp _)
              refine lv_pop hx hb dX8_readsWord_130 rfl ?_
              refine lv_aload_n hx hb dX8_readsWord_131 rfl (lv_at hl 4 rfl) ?_
              have hs622 : g_X8_isWell v621 ≠ none := fun q => hs (hF.trans (kb_n q _))
              refine km_cI (As := []) (rest := []) (n := 0) (q := (RX8, TX8, 23)) (ci := 8) (t := 30) (i := 0) ⟨hx, hb, hml, hown, hts⟩ (d_X8_isWell l E Z v621  hs622) gX8_readsWord_X8_isWell rfl hV_X8_isWell ⟨Nat.le_of_ble_eq_true rfl, Nat.le_of_ble_eq_true rfl⟩ hK hw (by decide) (by decide) rfl rfl rfl hl.1 rfl (Nat.le_of_ble_eq_true rfl) dX8_readsWord_132 rfl rfl (fun r623 v624 H locs hp hw => ?_)
              obtain ⟨hp, hzr623⟩ := hp
              obtain ⟨hp, rfl⟩ := hp
              have hF := hF.trans (kb_some hp _)
              refine lv_if_eq (tgt := 174) hx hb dX8_readsWord_135 (by decide) (fun c625 => ?_) (fun c625 => ?_)
              · skip
                have hF := hF.trans (if_pos c625)
                exact hret _ _ _ _ _ hw dX8_readsWord_174 hF
              · skip
                have hF := hF.trans (if_neg c625)
                refine lv_aload_n hx hb dX8_readsWord_138 rfl (lv_at hl 4 rfl) ?_
                refine km_get (ci := 8) (C := RX8) (T := TX8) (N := 23) (t := 30) (i := 0) hx hb hts fi_X8_readsWord_X8 hown hK hw (by decide) (by decide) rfl rfl 14 (by decide) (hts (.fieldLink RX8 28 "WrongWordModel" "draft" "[I") ow_X8_readsWord_28) rfl dX8_readsWord_139 ?_
                refine lv_iload_n hx hb dX8_readsWord_142 rfl (lv_at hl 3 rfl) ?_
                refine lv_iload_n hx hb dX8_readsWord_143 rfl (lv_at hl 2 rfl) ?_
                have hb626 : ¬ ((8 : Int32) + ((3 : Int32) * 0) < 0 ∨ 65 ≤ Int32.toNatClampNeg ((8 : Int32) + ((3 : Int32) * 0))) := fun q => hs (hF.trans (if_pos q))
                have hF := hF.trans (if_neg hb626)
                refine km_iast (t := 37) (i := 0) (n := 65) hx hb hK hw (by decide) (by decide) (fun _ => rfl) hb626 dX8_readsWord_144 (fun H locs hw => ?_)
                obtain ⟨v627, ev627⟩ : ∃ z, z = up3 v621 37 0 (Int32.toNatClampNeg ((8 : Int32) + ((3 : Int32) * 0))) r448 := ⟨_, rfl⟩
                rw [← ev627] at hw
                have hF := hF.trans (kb_some (congrArg some ev627.symm) _)
                refine lv_aload_n hx hb dX8_readsWord_145 rfl (lv_at hl 4 rfl) ?_
                refine km_get (ci := 8) (C := RX8) (T := TX8) (N := 23) (t := 30) (i := 0) hx hb hts fi_X8_readsWord_X8 hown hK hw (by decide) (by decide) rfl rfl 14 (by decide) (hts (.fieldLink RX8 28 "WrongWordModel" "draft" "[I") ow_X8_readsWord_28) rfl dX8_readsWord_146 ?_
                refine lv_iload_n hx hb dX8_readsWord_149 rfl (lv_at hl 3 rfl) ?_
                refine lv_iconst (v := 1) hx hb dX8_readsWord_150 (by decide) ?_
                refine lv_iadd hx hb dX8_readsWord_151 ?_
                refine lv_iload_n hx hb dX8_readsWord_152 rfl (lv_at hl 1 rfl) ?_
                have hb628 : ¬ (((8 : Int32) + ((3 : Int32) * 0)) + 1 < 0 ∨ 65 ≤ Int32.toNatClampNeg (((8 : Int32) + ((3 : Int32) * 0)) + 1)) := fun q => hs (hF.trans (if_pos q))
                have hF := hF.trans (if_neg hb628)
                refine km_iast (t := 37) (i := 0) (n := 65) hx hb hK hw (by decide) (by decide) (fun _ => rfl) hb628 dX8_readsWord_153 (fun H locs hw => ?_)
                obtain ⟨v629, ev629⟩ : ∃ z, z = up3 v627 37 0 (Int32.toNatClampNeg (((8 : Int32) + ((3 : Int32) * 0)) + 1)) r451 := ⟨_, rfl⟩
                rw [← ev629] at hw
                have hF := hF.trans (kb_some (congrArg some ev629.symm) _)
                refine lv_aload_n hx hb dX8_readsWord_154 rfl (lv_at hl 4 rfl) ?_
                refine km_get (ci := 8) (C := RX8) (T := TX8) (N := 23) (t := 30) (i := 0) hx hb hts fi_X8_readsWord_X8 hown hK hw (by decide) (by decide) rfl rfl 14 (by decide) (hts (.fieldLink RX8 28 "WrongWordModel" "draft" "[I") ow_X8_readsWord_28) rfl dX8_readsWord_155 ?_
                refine lv_iload_n hx hb dX8_readsWord_158 rfl (lv_at hl 3 rfl) ?_
                refine lv_iconst (v := 2) hx hb dX8_readsWord_159 (by decide) ?_
                refine lv_iadd hx hb dX8_readsWord_160 ?_
                refine lv_iload hx hb dX8_readsWord_161 (lv_at hl 0 rfl) ?_
                have hb630 : ¬ (((8 : Int32) + ((3 : Int32) * 0)) + 2 < 0 ∨ 65 ≤ Int32.toNatClampNeg (((8 : Int32) + ((3 : Int32) * 0)) + 2)) := fun q => hs (hF.trans (if_pos q))
                have hF := hF.trans (if_neg hb630)
                refine km_iast (t := 37) (i := 0) (n := 65) hx hb hK hw (by decide) (by decide) (fun _ => rfl) hb630 dX8_readsWord_163 (fun H locs hw => ?_)
                obtain ⟨v631, ev631⟩ : ∃ z, z = up3 v629 37 0 (Int32.toNatClampNeg (((8 : Int32) + ((3 : Int32) * 0)) + 2)) (r602 - 97) := ⟨_, rfl⟩
                rw [← ev631] at hw
                have hF := hF.trans (kb_some (congrArg some ev631.symm) _)
                refine lv_aload_n hx hb dX8_readsWord_164 rfl (lv_at hl 4 rfl) ?_
                refine km_get (ci := 8) (C := RX8) (T := TX8) (N := 23) (t := 30) (i := 0) hx hb hts fi_X8_readsWord_X8 hown hK hw (by decide) (by decide) rfl rfl 14 (by decide) (hts (.fieldLink RX8 28 "WrongWordModel" "draft" "[I") ow_X8_readsWord_28) rfl dX8_readsWord_165 ?_
                refine lv_iconst (v := 3) hx hb dX8_readsWord_168 (by decide) ?_
                refine lv_dup2_11 hx hb dX8_readsWord_169 rfl rfl ?_
                refine km_iald (t := 37) (i := 0) hx hb hK hw (by decide) (by decide) rfl (by unfold vp_in; decide) dX8_readsWord_170 ?_
                refine lv_iconst (v := 1) hx hb dX8_readsWord_171 (by decide) ?_
                refine lv_iadd hx hb dX8_readsWord_172 ?_
                refine km_iast (t := 37) (i := 0) (n := 65) hx hb hK hw (by decide) (by decide) (fun _ => rfl) (by unfold vp_in; decide) dX8_readsWord_173 (fun H locs hw => ?_)
                obtain ⟨v632, ev632⟩ : ∃ z, z = up3 v631 37 0 (Int32.toNatClampNeg 3) ((v631 37 0 (Int32.toNatClampNeg 3)) + 1) := ⟨_, rfl⟩
                rw [← ev632] at hw
                have hF := hF.trans (kb_some (congrArg some ev632.symm) _)
                exact hret _ _ _ _ _ hw dX8_readsWord_174 hF
          · skip
            have hF := hF.trans (if_pos c600)
            refine lv_iconst (v := 1) hx hb dX8_readsWord_98 (by decide) ?_
            refine lv_goto (tgt := 103) hx hb dX8_readsWord_99 (by decide) ?_
            refine lv_iconst (v := 2) hx hb dX8_readsWord_103 (by decide) ?_
            have hs633 : g_X8_takes v596 1 2 ≠ none := fun q => hs (hF.trans (kb2_n q _))
            refine km_cI (As := [.int 1, .int 2]) (rest := []) (n := 2) (q := (RX8, TX8, 23)) (ci := 8) (t := 30) (i := 0) ⟨hx, hb, hml, hown, hts⟩ (d_X8_takes l E Z v596 1 2 hs633) gX8_readsWord_X8_takes rfl hV_X8_takes ⟨Nat.le_of_ble_eq_true rfl, Nat.le_of_ble_eq_true rfl⟩ hK hw (by decide) (by decide) rfl rfl rfl hl.1 rfl (Nat.le_of_ble_eq_true rfl) dX8_readsWord_104 rfl rfl (fun r634 v635 H locs hp hw => ?_)
            have hF := hF.trans (kb2_some hp _)
            refine lv_bipush (v := 97) hx hb dX8_readsWord_107 (by decide) ?_
            refine lv_isub hx hb dX8_readsWord_109 ?_
            refine lv_istore (lv' := [(4, .int (r634 - 97)), (3, .int r451), (2, .int r448), (1, .int ((8 : Int32) + ((3 : Int32) * 0))), (0, .ref (Z.1 30 0))]) hx hb dX8_readsWord_110 hl (by decide) rfl (fun ls hl => ?_)
            refine lv_aload_n hx hb dX8_readsWord_112 rfl (lv_at hl 4 rfl) ?_
            refine lv_aload_n hx hb dX8_readsWord_113 rfl (lv_at hl 4 rfl) ?_
            refine km_get (ci := 8) (C := RX8) (T := TX8) (N := 23) (t := 30) (i := 0) hx hb hts fi_X8_readsWord_X8 hown hK hw (by decide) (by decide) rfl rfl 11 (by decide) (hts (.fieldLink RX8 98 "WrongWordModel" "token" "I") ow_X8_readsWord_98) rfl dX8_readsWord_114 ?_
            refine lv_iconst (v := 4) hx hb dX8_readsWord_117 (by decide) ?_
            refine lv_icmp_ne (tgt := 125) hx hb dX8_readsWord_118 (by decide) (fun c636 => ?_) (fun c636 => ?_)
            · skip
              have hF := hF.trans (if_neg c636)
              refine lv_iconst (v := 0) hx hb dX8_readsWord_125 (by decide) ?_
              refine lv_iconst (v := 1) hx hb dX8_readsWord_126 (by decide) ?_
              have hs637 : g_X8_takes v635 0 1 ≠ none := fun q => hs (hF.trans (kb2_n q _))
              refine km_cI (As := [.int 0, .int 1]) (rest := []) (n := 2) (q := (RX8, TX8, 23)) (ci := 8) (t := 30) (i := 0) ⟨hx, hb, hml, hown, hts⟩ (d_X8_takes l E Z v635 0 1 hs637) gX8_readsWord_X8_takes rfl hV_X8_takes ⟨Nat.le_of_ble_eq_true rfl, Nat.le_of_ble_eq_true rfl⟩ hK hw (by decide) (by decide) rfl rfl rfl hl.1 rfl (Nat.le_of_ble_eq_true rfl) dX8_readsWord_127 rfl rfl (fun r638 v639 H locs hp hw => ?_)
              have hF := hF.trans (kb2_some hp _)
              refine lv_pop hx hb dX8_readsWord_130 rfl ?_
              refine lv_aload_n hx hb dX8_readsWord_131 rfl (lv_at hl 4 rfl) ?_
              have hs640 : g_X8_isWell v639 ≠ none := fun q => hs (hF.trans (kb_n q _))
              refine km_cI (As := []) (rest := []) (n := 0) (q := (RX8, TX8, 23)) (ci := 8) (t := 30) (i := 0) ⟨hx, hb, hml, hown, hts⟩ (d_X8_isWell l E Z v639  hs640) gX8_readsWord_X8_isWell rfl hV_X8_isWell ⟨Nat.le_of_ble_eq_true rfl, Nat.le_of_ble_eq_true rfl⟩ hK hw (by decide) (by decide) rfl rfl rfl hl.1 rfl (Nat.le_of_ble_eq_true rfl) dX8_readsWord_132 rfl rfl (fun r641 v642 H locs hp hw => ?_)
              obtain ⟨hp, hzr641⟩ := hp
              obtain ⟨hp, rfl⟩ := hp
              have hF := hF.trans (kb_some hp _)
              refine lv_if_eq (tgt := 174) hx hb dX8_readsWord_135 (by decide) (fun c643 => ?_) (fun c643 => ?_)
              · skip
                have hF := hF.trans (if_pos c643)
                exact hret _ _ _ _ _ hw dX8_readsWord_174 hF
              · skip
                have hF := hF.trans (if_neg c643)
                refine lv_aload_n hx hb dX8_readsWord_138 rfl (lv_at hl 4 rfl) ?_
                refine km_get (ci := 8) (C := RX8) (T := TX8) (N := 23) (t := 30) (i := 0) hx hb hts fi_X8_readsWord_X8 hown hK hw (by decide) (by decide) rfl rfl 14 (by decide) (hts (.fieldLink RX8 28 "WrongWordModel" "draft" "[I") ow_X8_readsWord_28) rfl dX8_readsWord_139 ?_
                refine lv_iload_n hx hb dX8_readsWord_142 rfl (lv_at hl 3 rfl) ?_
                refine lv_iload_n hx hb dX8_readsWord_143 rfl (lv_at hl 2 rfl) ?_
                have hb644 : ¬ ((8 : Int32) + ((3 : Int32) * 0) < 0 ∨ 65 ≤ Int32.toNatClampNeg ((8 : Int32) + ((3 : Int32) * 0))) := fun q => hs (hF.trans (if_pos q))
                have hF := hF.trans (if_neg hb644)
                refine km_iast (t := 37) (i := 0) (n := 65) hx hb hK hw (by decide) (by decide) (fun _ => rfl) hb644 dX8_readsWord_144 (fun H locs hw => ?_)
                obtain ⟨v645, ev645⟩ : ∃ z, z = up3 v639 37 0 (Int32.toNatClampNeg ((8 : Int32) + ((3 : Int32) * 0))) r448 := ⟨_, rfl⟩
                rw [← ev645] at hw
                have hF := hF.trans (kb_some (congrArg some ev645.symm) _)
                refine lv_aload_n hx hb dX8_readsWord_145 rfl (lv_at hl 4 rfl) ?_
                refine km_get (ci := 8) (C := RX8) (T := TX8) (N := 23) (t := 30) (i := 0) hx hb hts fi_X8_readsWord_X8 hown hK hw (by decide) (by decide) rfl rfl 14 (by decide) (hts (.fieldLink RX8 28 "WrongWordModel" "draft" "[I") ow_X8_readsWord_28) rfl dX8_readsWord_146 ?_
                refine lv_iload_n hx hb dX8_readsWord_149 rfl (lv_at hl 3 rfl) ?_
                refine lv_iconst (v := 1) hx hb dX8_readsWord_150 (by decide) ?_
                refine lv_iadd hx hb dX8_readsWord_151 ?_
                refine lv_iload_n hx hb dX8_readsWord_152 rfl (lv_at hl 1 rfl) ?_
                have hb646 : ¬ (((8 : Int32) + ((3 : Int32) * 0)) + 1 < 0 ∨ 65 ≤ Int32.toNatClampNeg (((8 : Int32) + ((3 : Int32) * 0)) + 1)) := fun q => hs (hF.trans (if_pos q))
                have hF := hF.trans (if_neg hb646)
                refine km_iast (t := 37) (i := 0) (n := 65) hx hb hK hw (by decide) (by decide) (fun _ => rfl) hb646 dX8_readsWord_153 (fun H locs hw => ?_)
                obtain ⟨v647, ev647⟩ : ∃ z, z = up3 v645 37 0 (Int32.toNatClampNeg (((8 : Int32) + ((3 : Int32) * 0)) + 1)) r451 := ⟨_, rfl⟩
                rw [← ev647] at hw
                have hF := hF.trans (kb_some (congrArg some ev647.symm) _)
                refine lv_aload_n hx hb dX8_readsWord_154 rfl (lv_at hl 4 rfl) ?_
                refine km_get (ci := 8) (C := RX8) (T := TX8) (N := 23) (t := 30) (i := 0) hx hb hts fi_X8_readsWord_X8 hown hK hw (by decide) (by decide) rfl rfl 14 (by decide) (hts (.fieldLink RX8 28 "WrongWordModel" "draft" "[I") ow_X8_readsWord_28) rfl dX8_readsWord_155 ?_
                refine lv_iload_n hx hb dX8_readsWord_158 rfl (lv_at hl 3 rfl) ?_
                refine lv_iconst (v := 2) hx hb dX8_readsWord_159 (by decide) ?_
                refine lv_iadd hx hb dX8_readsWord_160 ?_
                refine lv_iload hx hb dX8_readsWord_161 (lv_at hl 0 rfl) ?_
                have hb648 : ¬ (((8 : Int32) + ((3 : Int32) * 0)) + 2 < 0 ∨ 65 ≤ Int32.toNatClampNeg (((8 : Int32) + ((3 : Int32) * 0)) + 2)) := fun q => hs (hF.trans (if_pos q))
                have hF := hF.trans (if_neg hb648)
                refine km_iast (t := 37) (i := 0) (n := 65) hx hb hK hw (by decide) (by decide) (fun _ => rfl) hb648 dX8_readsWord_163 (fun H locs hw => ?_)
                obtain ⟨v649, ev649⟩ : ∃ z, z = up3 v647 37 0 (Int32.toNatClampNeg (((8 : Int32) + ((3 : Int32) * 0)) + 2)) (r634 - 97) := ⟨_, rfl⟩
                rw [← ev649] at hw
                have hF := hF.trans (kb_some (congrArg some ev649.symm) _)
                refine lv_aload_n hx hb dX8_readsWord_164 rfl (lv_at hl 4 rfl) ?_
                refine km_get (ci := 8) (C := RX8) (T := TX8) (N := 23) (t := 30) (i := 0) hx hb hts fi_X8_readsWord_X8 hown hK hw (by decide) (by decide) rfl rfl 14 (by decide) (hts (.fieldLink RX8 28 "WrongWordModel" "draft" "[I") ow_X8_readsWord_28) rfl dX8_readsWord_165 ?_
                refine lv_iconst (v := 3) hx hb dX8_readsWord_168 (by decide) ?_
                refine lv_dup2_11 hx hb dX8_readsWord_169 rfl rfl ?_
                refine km_iald (t := 37) (i := 0) hx hb hK hw (by decide) (by decide) rfl (by unfold vp_in; decide) dX8_readsWord_170 ?_
                refine lv_iconst (v := 1) hx hb dX8_readsWord_171 (by decide) ?_
                refine lv_iadd hx hb dX8_readsWord_172 ?_
                refine km_iast (t := 37) (i := 0) (n := 65) hx hb hK hw (by decide) (by decide) (fun _ => rfl) (by unfold vp_in; decide) dX8_readsWord_173 (fun H locs hw => ?_)
                obtain ⟨v650, ev650⟩ : ∃ z, z = up3 v649 37 0 (Int32.toNatClampNeg 3) ((v649 37 0 (Int32.toNatClampNeg 3)) + 1) := ⟨_, rfl⟩
                rw [← ev650] at hw
                have hF := hF.trans (kb_some (congrArg some ev650.symm) _)
                exact hret _ _ _ _ _ hw dX8_readsWord_174 hF
            · skip
              have hF := hF.trans (if_pos c636)
              refine lv_iconst (v := 1) hx hb dX8_readsWord_121 (by decide) ?_
              refine lv_goto (tgt := 126) hx hb dX8_readsWord_122 (by decide) ?_
              refine lv_iconst (v := 1) hx hb dX8_readsWord_126 (by decide) ?_
              have hs651 : g_X8_takes v635 1 1 ≠ none := fun q => hs (hF.trans (kb2_n q _))
              refine km_cI (As := [.int 1, .int 1]) (rest := []) (n := 2) (q := (RX8, TX8, 23)) (ci := 8) (t := 30) (i := 0) ⟨hx, hb, hml, hown, hts⟩ (d_X8_takes l E Z v635 1 1 hs651) gX8_readsWord_X8_takes rfl hV_X8_takes ⟨Nat.le_of_ble_eq_true rfl, Nat.le_of_ble_eq_true rfl⟩ hK hw (by decide) (by decide) rfl rfl rfl hl.1 rfl (Nat.le_of_ble_eq_true rfl) dX8_readsWord_127 rfl rfl (fun r652 v653 H locs hp hw => ?_)
              have hF := hF.trans (kb2_some hp _)
              refine lv_pop hx hb dX8_readsWord_130 rfl ?_
              refine lv_aload_n hx hb dX8_readsWord_131 rfl (lv_at hl 4 rfl) ?_
              have hs654 : g_X8_isWell v653 ≠ none := fun q => hs (hF.trans (kb_n q _))
              refine km_cI (As := []) (rest := []) (n := 0) (q := (RX8, TX8, 23)) (ci := 8) (t := 30) (i := 0) ⟨hx, hb, hml, hown, hts⟩ (d_X8_isWell l E Z v653  hs654) gX8_readsWord_X8_isWell rfl hV_X8_isWell ⟨Nat.le_of_ble_eq_true rfl, Nat.le_of_ble_eq_true rfl⟩ hK hw (by decide) (by decide) rfl rfl rfl hl.1 rfl (Nat.le_of_ble_eq_true rfl) dX8_readsWord_132 rfl rfl (fun r655 v656 H locs hp hw => ?_)
              obtain ⟨hp, hzr655⟩ := hp
              obtain ⟨hp, rfl⟩ := hp
              have hF := hF.trans (kb_some hp _)
              refine lv_if_eq (tgt := 174) hx hb dX8_readsWord_135 (by decide) (fun c657 => ?_) (fun c657 => ?_)
              · skip
                have hF := hF.trans (if_pos c657)
                exact hret _ _ _ _ _ hw dX8_readsWord_174 hF
              · skip
                have hF := hF.trans (if_neg c657)
                refine lv_aload_n hx hb dX8_readsWord_138 rfl (lv_at hl 4 rfl) ?_
                refine km_get (ci := 8) (C := RX8) (T := TX8) (N := 23) (t := 30) (i := 0) hx hb hts fi_X8_readsWord_X8 hown hK hw (by decide) (by decide) rfl rfl 14 (by decide) (hts (.fieldLink RX8 28 "WrongWordModel" "draft" "[I") ow_X8_readsWord_28) rfl dX8_readsWord_139 ?_
                refine lv_iload_n hx hb dX8_readsWord_142 rfl (lv_at hl 3 rfl) ?_
                refine lv_iload_n hx hb dX8_readsWord_143 rfl (lv_at hl 2 rfl) ?_
                have hb658 : ¬ ((8 : Int32) + ((3 : Int32) * 0) < 0 ∨ 65 ≤ Int32.toNatClampNeg ((8 : Int32) + ((3 : Int32) * 0))) := fun q => hs (hF.trans (if_pos q))
                have hF := hF.trans (if_neg hb658)
                refine km_iast (t := 37) (i := 0) (n := 65) hx hb hK hw (by decide) (by decide) (fun _ => rfl) hb658 dX8_readsWord_144 (fun H locs hw => ?_)
                obtain ⟨v659, ev659⟩ : ∃ z, z = up3 v653 37 0 (Int32.toNatClampNeg ((8 : Int32) + ((3 : Int32) * 0))) r448 := ⟨_, rfl⟩
                rw [← ev659] at hw
                have hF := hF.trans (kb_some (congrArg some ev659.symm) _)
                refine lv_aload_n hx hb dX8_readsWord_145 rfl (lv_at hl 4 rfl) ?_
                refine km_get (ci := 8) (C := RX8) (T := TX8) (N := 23) (t := 30) (i := 0) hx hb hts fi_X8_readsWord_X8 hown hK hw (by decide) (by decide) rfl rfl 14 (by decide) (hts (.fieldLink RX8 28 "WrongWordModel" "draft" "[I") ow_X8_readsWord_28) rfl dX8_readsWord_146 ?_
                refine lv_iload_n hx hb dX8_readsWord_149 rfl (lv_at hl 3 rfl) ?_
                refine lv_iconst (v := 1) hx hb dX8_readsWord_150 (by decide) ?_
                refine lv_iadd hx hb dX8_readsWord_151 ?_
                refine lv_iload_n hx hb dX8_readsWord_152 rfl (lv_at hl 1 rfl) ?_
                have hb660 : ¬ (((8 : Int32) + ((3 : Int32) * 0)) + 1 < 0 ∨ 65 ≤ Int32.toNatClampNeg (((8 : Int32) + ((3 : Int32) * 0)) + 1)) := fun q => hs (hF.trans (if_pos q))
                have hF := hF.trans (if_neg hb660)
                refine km_iast (t := 37) (i := 0) (n := 65) hx hb hK hw (by decide) (by decide) (fun _ => rfl) hb660 dX8_readsWord_153 (fun H locs hw => ?_)
                obtain ⟨v661, ev661⟩ : ∃ z, z = up3 v659 37 0 (Int32.toNatClampNeg (((8 : Int32) + ((3 : Int32) * 0)) + 1)) r451 := ⟨_, rfl⟩
                rw [← ev661] at hw
                have hF := hF.trans (kb_some (congrArg some ev661.symm) _)
                refine lv_aload_n hx hb dX8_readsWord_154 rfl (lv_at hl 4 rfl) ?_
                refine km_get (ci := 8) (C := RX8) (T := TX8) (N := 23) (t := 30) (i := 0) hx hb hts fi_X8_readsWord_X8 hown hK hw (by decide) (by decide) rfl rfl 14 (by decide) (hts (.fieldLink RX8 28 "WrongWordModel" "draft" "[I") ow_X8_readsWord_28) rfl dX8_readsWord_155 ?_
                refine lv_iload_n hx hb dX8_readsWord_158 rfl (lv_at hl 3 rfl) ?_
                refine lv_iconst (v := 2) hx hb dX8_readsWord_159 (by decide) ?_
                refine lv_iadd hx hb dX8_readsWord_160 ?_
                refine lv_iload hx hb dX8_readsWord_161 (lv_at hl 0 rfl) ?_
                have hb662 : ¬ (((8 : Int32) + ((3 : Int32) * 0)) + 2 < 0 ∨ 65 ≤ Int32.toNatClampNeg (((8 : Int32) + ((3 : Int32) * 0)) + 2)) := fun q => hs (hF.trans (if_pos q))
                have hF := hF.trans (if_neg hb662)
                refine km_iast (t := 37) (i := 0) (n := 65) hx hb hK hw (by decide) (by decide) (fun _ => rfl) hb662 dX8_readsWord_163 (fun H locs hw => ?_)
                obtain ⟨v663, ev663⟩ : ∃ z, z = up3 v661 37 0 (Int32.toNatClampNeg (((8 : Int32) + ((3 : Int32) * 0)) + 2)) (r634 - 97) := ⟨_, rfl⟩
                rw [← ev663] at hw
                have hF := hF.trans (kb_some (congrArg some ev663.symm) _)
                refine lv_aload_n hx hb dX8_readsWord_164 rfl (lv_at hl 4 rfl) ?_
                refine km_get (ci := 8) (C := RX8) (T := TX8) (N := 23) (t := 30) (i := 0) hx hb hts fi_X8_readsWord_X8 hown hK hw (by decide) (by decide) rfl rfl 14 (by decide) (hts (.fieldLink RX8 28 "WrongWordModel" "draft" "[I") ow_X8_readsWord_28) rfl dX8_readsWord_165 ?_
                refine lv_iconst (v := 3) hx hb dX8_readsWord_168 (by decide) ?_
                refine lv_dup2_11 hx hb dX8_readsWord_169 rfl rfl ?_
                refine km_iald (t := 37) (i := 0) hx hb hK hw (by decide) (by decide) rfl (by unfold vp_in; decide) dX8_readsWord_170 ?_
                refine lv_iconst (v := 1) hx hb dX8_readsWord_171 (by decide) ?_
                refine lv_iadd hx hb dX8_readsWord_172 ?_
                refine km_iast (t := 37) (i := 0) (n := 65) hx hb hK hw (by decide) (by decide) (fun _ => rfl) (by unfold vp_in; decide) dX8_readsWord_173 (fun H locs hw => ?_)
                obtain ⟨v664, ev664⟩ : ∃ z, z = up3 v663 37 0 (Int32.toNatClampNeg 3) ((v663 37 0 (Int32.toNatClampNeg 3)) + 1) := ⟨_, rfl⟩
                rw [← ev664] at hw
                have hF := hF.trans (kb_some (congrArg some ev664.symm) _)
                exact hret _ _ _ _ _ hw dX8_readsWord_174 hF
    · skip
      have hF := hF.trans (if_neg c446)
      refine lv_aload_n hx hb dX8_readsWord_36 rfl (lv_at hl 0 rfl) ?_
      refine km_get (ci := 8) (C := RX8) (T := TX8) (N := 23) (t := 30) (i := 0) hx hb hts fi_X8_readsWord_X8 hown hK hw (by decide) (by decide) rfl rfl 14 (by decide) (hts (.fieldLink RX8 28 "WrongWordModel" "draft" "[I") ow_X8_readsWord_28) rfl dX8_readsWord_37 ?_
      refine lv_iconst (v := 3) hx hb dX8_readsWord_40 (by decide) ?_
      refine km_iald (t := 37) (i := 0) hx hb hK hw (by decide) (by decide) rfl (by unfold vp_in; decide) dX8_readsWord_41 ?_
      refine lv_goto (tgt := 46) hx hb dX8_readsWord_42 (by decide) ?_
      refine lv_imul hx hb dX8_readsWord_46 ?_
      refine lv_iadd hx hb dX8_readsWord_47 ?_
      refine lv_topi (fun x665 ex665 => ?_)
      have hF := hF.trans (kb_some (congrArg some ex665.symm) _)
      refine lv_istore_n (lv' := [(1, .int x665), (0, .ref (Z.1 30 0))]) hx hb dX8_readsWord_48 rfl hl (by decide) rfl (fun ls hl => ?_)
      refine lv_aload_n hx hb dX8_readsWord_49 rfl (lv_at hl 1 rfl) ?_
      have hs666 : g_X8_letterOf v445 ≠ none := fun q => hs (hF.trans (kb2_n q _))
      refine km_cI (As := []) (rest := []) (n := 0) (q := (RX8, TX8, 23)) (ci := 8) (t := 30) (i := 0) ⟨hx, hb, hml, hown, hts⟩ (d_X8_letterOf l E Z v445  hs666) gX8_readsWord_X8_letterOf rfl hV_X8_letterOf ⟨Nat.le_of_ble_eq_true rfl, Nat.le_of_ble_eq_true rfl⟩ hK hw (by decide) (by decide) rfl rfl rfl hl.1 rfl (Nat.le_of_ble_eq_true rfl) dX8_readsWord_50 rfl rfl (fun r667 v668 H locs hp hw => ?_)
      have hF := hF.trans (kb2_some hp _)
      refine lv_istore_n (lv' := [(2, .int r667), (1, .int x665), (0, .ref (Z.1 30 0))]) hx hb dX8_readsWord_53 rfl hl (by decide) rfl (fun ls hl => ?_)
      refine lv_aload_n hx hb dX8_readsWord_54 rfl (lv_at hl 2 rfl) ?_
      have hs669 : g_X8_letterOf v668 ≠ none := fun q => hs (hF.trans (kb2_n q _))
      refine km_cI (As := []) (rest := []) (n := 0) (q := (RX8, TX8, 23)) (ci := 8) (t := 30) (i := 0) ⟨hx, hb, hml, hown, hts⟩ (d_X8_letterOf l E Z v668  hs669) gX8_readsWord_X8_letterOf rfl hV_X8_letterOf ⟨Nat.le_of_ble_eq_true rfl, Nat.le_of_ble_eq_true rfl⟩ hK hw (by decide) (by decide) rfl rfl rfl hl.1 rfl (Nat.le_of_ble_eq_true rfl) dX8_readsWord_55 rfl rfl (fun r670 v671 H locs hp hw => ?_)
      have hF := hF.trans (kb2_some hp _)
      refine lv_istore_n (lv' := [(3, .int r670), (2, .int r667), (1, .int x665), (0, .ref (Z.1 30 0))]) hx hb dX8_readsWord_58 rfl hl (by decide) rfl (fun ls hl => ?_)
      refine lv_aload_n hx hb dX8_readsWord_59 rfl (lv_at hl 3 rfl) ?_
      have hs672 : g_X8_isWell v671 ≠ none := fun q => hs (hF.trans (kb_n q _))
      refine km_cI (As := []) (rest := []) (n := 0) (q := (RX8, TX8, 23)) (ci := 8) (t := 30) (i := 0) ⟨hx, hb, hml, hown, hts⟩ (d_X8_isWell l E Z v671  hs672) gX8_readsWord_X8_isWell rfl hV_X8_isWell ⟨Nat.le_of_ble_eq_true rfl, Nat.le_of_ble_eq_true rfl⟩ hK hw (by decide) (by decide) rfl rfl rfl hl.1 rfl (Nat.le_of_ble_eq_true rfl) dX8_readsWord_60 rfl rfl (fun r673 v674 H locs hp hw => ?_)
      obtain ⟨hp, hzr673⟩ := hp
      obtain ⟨hp, rfl⟩ := hp
      have hF := hF.trans (kb_some hp _)
      refine lv_if_eq (tgt := 81) hx hb dX8_readsWord_63 (by decide) (fun c675 => ?_) (fun c675 => ?_)
      · skip
        have hF := hF.trans (if_pos c675)
        refine lv_aload_n hx hb dX8_readsWord_81 rfl (lv_at hl 3 rfl) ?_
        refine lv_aload_n hx hb dX8_readsWord_82 rfl (lv_at hl 3 rfl) ?_
        refine lv_iload_n hx hb dX8_readsWord_83 rfl (lv_at hl 1 rfl) ?_
        refine lv_iload_n hx hb dX8_readsWord_84 rfl (lv_at hl 0 rfl) ?_
        refine lv_aload_n hx hb dX8_readsWord_85 rfl (lv_at hl 3 rfl) ?_
        refine km_get (ci := 8) (C := RX8) (T := TX8) (N := 23) (t := 30) (i := 0) hx hb hts fi_X8_readsWord_X8 hown hK hw (by decide) (by decide) rfl rfl 12 (by decide) (hts (.fieldLink RX8 95 "WrongWordModel" "value" "I") ow_X8_readsWord_95) rfl dX8_readsWord_86 ?_
        refine lv_bipush (v := 97) hx hb dX8_readsWord_89 (by decide) ?_
        refine lv_isub hx hb dX8_readsWord_91 ?_
        have hs676 : g_X8_isTold v671 r667 r670 ((v671 30 0 12) - 97) ≠ none := fun q => hs (hF.trans (kb_n q _))
        refine km_cI (As := [.int r667, .int r670, .int ((v671 30 0 12) - 97)]) (rest := [.ref (Z.1 30 0)]) (n := 3) (q := (RX8, TX8, 23)) (ci := 8) (t := 30) (i := 0) ⟨hx, hb, hml, hown, hts⟩ (d_X8_isTold l E Z v671 r667 r670 ((v671 30 0 12) - 97) hs676) gX8_readsWord_X8_isTold rfl hV_X8_isTold ⟨Nat.le_of_ble_eq_true rfl, Nat.le_of_ble_eq_true rfl⟩ hK hw (by decide) (by decide) rfl rfl rfl hl.1 rfl (Nat.le_of_ble_eq_true rfl) dX8_readsWord_92 rfl rfl (fun r677 v678 H locs hp hw => ?_)
        obtain ⟨hp, hzr677⟩ := hp
        obtain ⟨hp, rfl⟩ := hp
        have hF := hF.trans (kb_some hp _)
        refine lv_if_ne (tgt := 102) hx hb dX8_readsWord_95 (by decide) (fun c679 => ?_) (fun c679 => ?_)
        · skip
          have hF := hF.trans (if_neg c679)
          refine lv_iconst (v := 0) hx hb dX8_readsWord_102 (by decide) ?_
          refine lv_iconst (v := 2) hx hb dX8_readsWord_103 (by decide) ?_
          have hs680 : g_X8_takes v671 0 2 ≠ none := fun q => hs (hF.trans (kb2_n q _))
          refine km_cI (As := [.int 0, .int 2]) (rest := []) (n := 2) (q := (RX8, TX8, 23)) (ci := 8) (t := 30) (i := 0) ⟨hx, hb, hml, hown, hts⟩ (d_X8_takes l E Z v671 0 2 hs680) gX8_readsWord_X8_takes rfl hV_X8_takes ⟨Nat.le_of_ble_eq_true rfl, Nat.le_of_ble_eq_true rfl⟩ hK hw (by decide) (by decide) rfl rfl rfl hl.1 rfl (Nat.le_of_ble_eq_true rfl) dX8_readsWord_104 rfl rfl (fun r681 v682 H locs hp hw => ?_)
          have hF := hF.trans (kb2_some hp _)
          refine lv_bipush (v := 97) hx hb dX8_readsWord_107 (by decide) ?_
          refine lv_isub hx hb dX8_readsWord_109 ?_
          refine lv_istore (lv' := [(4, .int (r681 - 97)), (3, .int r670), (2, .int r667), (1, .int x665), (0, .ref (Z.1 30 0))]) hx hb dX8_readsWord_110 hl (by decide) rfl (fun ls hl => ?_)
          refine lv_aload_n hx hb dX8_readsWord_112 rfl (lv_at hl 4 rfl) ?_
          refine lv_aload_n hx hb dX8_readsWord_113 rfl (lv_at hl 4 rfl) ?_
          refine km_get (ci := 8) (C := RX8) (T := TX8) (N := 23) (t := 30) (i := 0) hx hb hts fi_X8_readsWord_X8 hown hK hw (by decide) (by decide) rfl rfl 11 (by decide) (hts (.fieldLink RX8 98 "WrongWordModel" "token" "I") ow_X8_readsWord_98) rfl dX8_readsWord_114 ?_
          refine lv_iconst (v := 4) hx hb dX8_readsWord_117 (by decide) ?_
          refine lv_icmp_ne (tgt := 125) hx hb dX8_readsWord_118 (by decide) (fun c683 => ?_) (fun c683 => ?_)
          · skip
            have hF := hF.trans (if_neg c683)
            refine lv_iconst (v := 0) hx hb dX8_readsWord_125 (by decide) ?_
            refine lv_iconst (v := 1) hx hb dX8_readsWord_126 (by decide) ?_
            have hs684 : g_X8_takes v682 0 1 ≠ none := fun q => hs (hF.trans (kb2_n q _))
            refine km_cI (As := [.int 0, .int 1]) (rest := []) (n := 2) (q := (RX8, TX8, 23)) (ci := 8) (t := 30) (i := 0) ⟨hx, hb, hml, hown, hts⟩ (d_X8_takes l E Z v682 0 1 hs684) gX8_readsWord_X8_takes rfl hV_X8_takes ⟨Nat.le_of_ble_eq_true rfl, Nat.le_of_ble_eq_true rfl⟩ hK hw (by decide) (by decide) rfl rfl rfl hl.1 rfl (Nat.le_of_ble_eq_true rfl) dX8_readsWord_127 rfl rfl (fun r685 v686 H locs hp hw => ?_)
            have hF := hF.trans (kb2_some hp _)
            refine lv_pop hx hb dX8_readsWord_130 rfl ?_
            refine lv_aload_n hx hb dX8_readsWord_131 rfl (lv_at hl 4 rfl) ?_
            have hs687 : g_X8_isWell v686 ≠ none := fun q => hs (hF.trans (kb_n q _))
            refine km_cI (As := []) (rest := []) (n := 0) (q := (RX8, TX8, 23)) (ci := 8) (t := 30) (i := 0) ⟨hx, hb, hml, hown, hts⟩ (d_X8_isWell l E Z v686  hs687) gX8_readsWord_X8_isWell rfl hV_X8_isWell ⟨Nat.le_of_ble_eq_true rfl, Nat.le_of_ble_eq_true rfl⟩ hK hw (by decide) (by decide) rfl rfl rfl hl.1 rfl (Nat.le_of_ble_eq_true rfl) dX8_readsWord_132 rfl rfl (fun r688 v689 H locs hp hw => ?_)
            obtain ⟨hp, hzr688⟩ := hp
            obtain ⟨hp, rfl⟩ := hp
            have hF := hF.trans (kb_some hp _)
            refine lv_if_eq (tgt := 174) hx hb dX8_readsWord_135 (by decide) (fun c690 => ?_) (fun c690 => ?_)
            · skip
              have hF := hF.trans (if_pos c690)
              exact hret _ _ _ _ _ hw dX8_readsWord_174 hF
            · skip
              have hF := hF.trans (if_neg c690)
              refine lv_aload_n hx hb dX8_readsWord_138 rfl (lv_at hl 4 rfl) ?_
              refine km_get (ci := 8) (C := RX8) (T := TX8) (N := 23) (t := 30) (i := 0) hx hb hts fi_X8_readsWord_X8 hown hK hw (by decide) (by decide) rfl rfl 14 (by decide) (hts (.fieldLink RX8 28 "WrongWordModel" "draft" "[I") ow_X8_readsWord_28) rfl dX8_readsWord_139 ?_
              refine lv_iload_n hx hb dX8_readsWord_142 rfl (lv_at hl 3 rfl) ?_
              refine lv_iload_n hx hb dX8_readsWord_143 rfl (lv_at hl 2 rfl) ?_
              have hb691 : ¬ (x665 < 0 ∨ 65 ≤ Int32.toNatClampNeg x665) := fun q => hs (hF.trans (if_pos q))
              have hF := hF.trans (if_neg hb691)
              refine km_iast (t := 37) (i := 0) (n := 65) hx hb hK hw (by decide) (by decide) (fun _ => rfl) hb691 dX8_readsWord_144 (fun H locs hw => ?_)
              obtain ⟨v692, ev692⟩ : ∃ z, z = up3 v686 37 0 (Int32.toNatClampNeg x665) r667 := ⟨_, rfl⟩
              rw [← ev692] at hw
              have hF := hF.trans (kb_some (congrArg some ev692.symm) _)
              refine lv_aload_n hx hb dX8_readsWord_145 rfl (lv_at hl 4 rfl) ?_
              refine km_get (ci := 8) (C := RX8) (T := TX8) (N := 23) (t := 30) (i := 0) hx hb hts fi_X8_readsWord_X8 hown hK hw (by decide) (by decide) rfl rfl 14 (by decide) (hts (.fieldLink RX8 28 "WrongWordModel" "draft" "[I") ow_X8_readsWord_28) rfl dX8_readsWord_146 ?_
              refine lv_iload_n hx hb dX8_readsWord_149 rfl (lv_at hl 3 rfl) ?_
              refine lv_iconst (v := 1) hx hb dX8_readsWord_150 (by decide) ?_
              refine lv_iadd hx hb dX8_readsWord_151 ?_
              refine lv_iload_n hx hb dX8_readsWord_152 rfl (lv_at hl 1 rfl) ?_
              have hb693 : ¬ (x665 + 1 < 0 ∨ 65 ≤ Int32.toNatClampNeg (x665 + 1)) := fun q => hs (hF.trans (if_pos q))
              have hF := hF.trans (if_neg hb693)
              refine km_iast (t := 37) (i := 0) (n := 65) hx hb hK hw (by decide) (by decide) (fun _ => rfl) hb693 dX8_readsWord_153 (fun H locs hw => ?_)
              obtain ⟨v694, ev694⟩ : ∃ z, z = up3 v692 37 0 (Int32.toNatClampNeg (x665 + 1)) r670 := ⟨_, rfl⟩
              rw [← ev694] at hw
              have hF := hF.trans (kb_some (congrArg some ev694.symm) _)
              refine lv_aload_n hx hb dX8_readsWord_154 rfl (lv_at hl 4 rfl) ?_
              refine km_get (ci := 8) (C := RX8) (T := TX8) (N := 23) (t := 30) (i := 0) hx hb hts fi_X8_readsWord_X8 hown hK hw (by decide) (by decide) rfl rfl 14 (by decide) (hts (.fieldLink RX8 28 "WrongWordModel" "draft" "[I") ow_X8_readsWord_28) rfl dX8_readsWord_155 ?_
              refine lv_iload_n hx hb dX8_readsWord_158 rfl (lv_at hl 3 rfl) ?_
              refine lv_iconst (v := 2) hx hb dX8_readsWord_159 (by decide) ?_
              refine lv_iadd hx hb dX8_readsWord_160 ?_
              refine lv_iload hx hb dX8_readsWord_161 (lv_at hl 0 rfl) ?_
              have hb695 : ¬ (x665 + 2 < 0 ∨ 65 ≤ Int32.toNatClampNeg (x665 + 2)) := fun q => hs (hF.trans (if_pos q))
              have hF := hF.trans (if_neg hb695)
              refine km_iast (t := 37) (i := 0) (n := 65) hx hb hK hw (by decide) (by decide) (fun _ => rfl) hb695 dX8_readsWord_163 (fun H locs hw => ?_)
              obtain ⟨v696, ev696⟩ : ∃ z, z = up3 v694 37 0 (Int32.toNatClampNeg (x665 + 2)) (r681 - 97) := ⟨_, rfl⟩
              rw [← ev696] at hw
              have hF := hF.trans (kb_some (congrArg some ev696.symm) _)
              refine lv_aload_n hx hb dX8_readsWord_164 rfl (lv_at hl 4 rfl) ?_
              refine km_get (ci := 8) (C := RX8) (T := TX8) (N := 23) (t := 30) (i := 0) hx hb hts fi_X8_readsWord_X8 hown hK hw (by decide) (by decide) rfl rfl 14 (by decide) (hts (.fieldLink RX8 28 "WrongWordModel" "draft" "[I") ow_X8_readsWord_28) rfl dX8_readsWord_165 ?_
              refine lv_iconst (v := 3) hx hb dX8_readsWord_168 (by decide) ?_
              refine lv_dup2_11 hx hb dX8_readsWord_169 rfl rfl ?_
              refine km_iald (t := 37) (i := 0) hx hb hK hw (by decide) (by decide) rfl (by unfold vp_in; decide) dX8_readsWord_170 ?_
              refine lv_iconst (v := 1) hx hb dX8_readsWord_171 (by decide) ?_
              refine lv_iadd hx hb dX8_readsWord_172 ?_
              refine km_iast (t := 37) (i := 0) (n := 65) hx hb hK hw (by decide) (by decide) (fun _ => rfl) (by unfold vp_in; decide) dX8_readsWord_173 (fun H locs hw => ?_)
              obtain ⟨v697, ev697⟩ : ∃ z, z = up3 v696 37 0 (Int32.toNatClampNeg 3) ((v696 37 0 (Int32.toNatClampNeg 3)) + 1) := ⟨_, rfl⟩
              rw [← ev697] at hw
              have hF := hF.trans (kb_some (congrArg some ev697.symm) _)
              exact hret _ _ _ _ _ hw dX8_readsWord_174 hF
          · skip
            have hF := hF.trans (if_pos c683)
            refine lv_iconst (v := 1) hx hb dX8_readsWord_121 (by decide) ?_
            refine lv_goto (tgt := 126) hx hb dX8_readsWord_122 (by decide) ?_
            refine lv_iconst (v := 1) hx hb dX8_readsWord_126 (by decide) ?_
            have hs698 : g_X8_takes v682 1 1 ≠ none := fun q => hs (hF.trans (kb2_n q _))
            refine km_cI (As := [.int 1, .int 1]) (rest := []) (n := 2) (q := (RX8, TX8, 23)) (ci := 8) (t := 30) (i := 0) ⟨hx, hb, hml, hown, hts⟩ (d_X8_takes l E Z v682 1 1 hs698) gX8_readsWord_X8_takes rfl hV_X8_takes ⟨Nat.le_of_ble_eq_true rfl, Nat.le_of_ble_eq_true rfl⟩ hK hw (by decide) (by decide) rfl rfl rfl hl.1 rfl (Nat.le_of_ble_eq_true rfl) dX8_readsWord_127 rfl rfl (fun r699 v700 H locs hp hw => ?_)
            have hF := hF.trans (kb2_some hp _)
            refine lv_pop hx hb dX8_readsWord_130 rfl ?_
            refine lv_aload_n hx hb dX8_readsWord_131 rfl (lv_at hl 4 rfl) ?_
            have hs701 : g_X8_isWell v700 ≠ none := fun q => hs (hF.trans (kb_n q _))
            refine km_cI (As := []) (rest := []) (n := 0) (q := (RX8, TX8, 23)) (ci := 8) (t := 30) (i := 0) ⟨hx, hb, hml, hown, hts⟩ (d_X8_isWell l E Z v700  hs701) gX8_readsWord_X8_isWell rfl hV_X8_isWell ⟨Nat.le_of_ble_eq_true rfl, Nat.le_of_ble_eq_true rfl⟩ hK hw (by decide) (by decide) rfl rfl rfl hl.1 rfl (Nat.le_of_ble_eq_true rfl) dX8_readsWord_132 rfl rfl (fun r702 v703 H locs hp hw => ?_)
            obtain ⟨hp, hzr702⟩ := hp
            obtain ⟨hp, rfl⟩ := hp
            have hF := hF.trans (kb_some hp _)
            refine lv_if_eq (tgt := 174) hx hb dX8_readsWord_135 (by decide) (fun c704 => ?_) (fun c704 => ?_)
            · skip
              have hF := hF.trans (if_pos c704)
              exact hret _ _ _ _ _ hw dX8_readsWord_174 hF
            · skip
              have hF := hF.trans (if_neg c704)
              refine lv_aload_n hx hb dX8_readsWord_138 rfl (lv_at hl 4 rfl) ?_
              refine km_get (ci := 8) (C := RX8) (T := TX8) (N := 23) (t := 30) (i := 0) hx hb hts fi_X8_readsWord_X8 hown hK hw (by decide) (by decide) rfl rfl 14 (by decide) (hts (.fieldLink RX8 28 "WrongWordModel" "draft" "[I") ow_X8_readsWord_28) rfl dX8_readsWord_139 ?_
              refine lv_iload_n hx hb dX8_readsWord_142 rfl (lv_at hl 3 rfl) ?_
              refine lv_iload_n hx hb dX8_readsWord_143 rfl (lv_at hl 2 rfl) ?_
              have hb705 : ¬ (x665 < 0 ∨ 65 ≤ Int32.toNatClampNeg x665) := fun q => hs (hF.trans (if_pos q))
              have hF := hF.trans (if_neg hb705)
              refine km_iast (t := 37) (i := 0) (n := 65) hx hb hK hw (by decide) (by decide) (fun _ => rfl) hb705 dX8_readsWord_144 (fun H locs hw => ?_)
              obtain ⟨v706, ev706⟩ : ∃ z, z = up3 v700 37 0 (Int32.toNatClampNeg x665) r667 := ⟨_, rfl⟩
              rw [← ev706] at hw
              have hF := hF.trans (kb_some (congrArg some ev706.symm) _)
              refine lv_aload_n hx hb dX8_readsWord_145 rfl (lv_at hl 4 rfl) ?_
              refine km_get (ci := 8) (C := RX8) (T := TX8) (N := 23) (t := 30) (i := 0) hx hb hts fi_X8_readsWord_X8 hown hK hw (by decide) (by decide) rfl rfl 14 (by decide) (hts (.fieldLink RX8 28 "WrongWordModel" "draft" "[I") ow_X8_readsWord_28) rfl dX8_readsWord_146 ?_
              refine lv_iload_n hx hb dX8_readsWord_149 rfl (lv_at hl 3 rfl) ?_
              refine lv_iconst (v := 1) hx hb dX8_readsWord_150 (by decide) ?_
              refine lv_iadd hx hb dX8_readsWord_151 ?_
              refine lv_iload_n hx hb dX8_readsWord_152 rfl (lv_at hl 1 rfl) ?_
              have hb707 : ¬ (x665 + 1 < 0 ∨ 65 ≤ Int32.toNatClampNeg (x665 + 1)) := fun q => hs (hF.trans (if_pos q))
              have hF := hF.trans (if_neg hb707)
              refine km_iast (t := 37) (i := 0) (n := 65) hx hb hK hw (by decide) (by decide) (fun _ => rfl) hb707 dX8_readsWord_153 (fun H locs hw => ?_)
              obtain ⟨v708, ev708⟩ : ∃ z, z = up3 v706 37 0 (Int32.toNatClampNeg (x665 + 1)) r670 := ⟨_, rfl⟩
              rw [← ev708] at hw
              have hF := hF.trans (kb_some (congrArg some ev708.symm) _)
              refine lv_aload_n hx hb dX8_readsWord_154 rfl (lv_at hl 4 rfl) ?_
              refine km_get (ci := 8) (C := RX8) (T := TX8) (N := 23) (t := 30) (i := 0) hx hb hts fi_X8_readsWord_X8 hown hK hw (by decide) (by decide) rfl rfl 14 (by decide) (hts (.fieldLink RX8 28 "WrongWordModel" "draft" "[I") ow_X8_readsWord_28) rfl dX8_readsWord_155 ?_
              refine lv_iload_n hx hb dX8_readsWord_158 rfl (lv_at hl 3 rfl) ?_
              refine lv_iconst (v := 2) hx hb dX8_readsWord_159 (by decide) ?_
              refine lv_iadd hx hb dX8_readsWord_160 ?_
              refine lv_iload hx hb dX8_readsWord_161 (lv_at hl 0 rfl) ?_
              have hb709 : ¬ (x665 + 2 < 0 ∨ 65 ≤ Int32.toNatClampNeg (x665 + 2)) := fun q => hs (hF.trans (if_pos q))
              have hF := hF.trans (if_neg hb709)
              refine km_iast (t := 37) (i := 0) (n := 65) hx hb hK hw (by decide) (by decide) (fun _ => rfl) hb709 dX8_readsWord_163 (fun H locs hw => ?_)
              obtain ⟨v710, ev710⟩ : ∃ z, z = up3 v708 37 0 (Int32.toNatClampNeg (x665 + 2)) (r681 - 97) := ⟨_, rfl⟩
              rw [← ev710] at hw
              have hF := hF.trans (kb_some (congrArg some ev710.symm) _)
              refine lv_aload_n hx hb dX8_readsWord_164 rfl (lv_at hl 4 rfl) ?_
              refine km_get (ci := 8) (C := RX8) (T := TX8) (N := 23) (t := 30) (i := 0) hx hb hts fi_X8_readsWord_X8 hown hK hw (by decide) (by decide) rfl rfl 14 (by decide) (hts (.fieldLink RX8 28 "WrongWordModel" "draft" "[I") ow_X8_readsWord_28) rfl dX8_readsWord_165 ?_
              refine lv_iconst (v := 3) hx hb dX8_readsWord_168 (by decide) ?_
              refine lv_dup2_11 hx hb dX8_readsWord_169 rfl rfl ?_
              refine km_iald (t := 37) (i := 0) hx hb hK hw (by decide) (by decide) rfl (by unfold vp_in; decide) dX8_readsWord_170 ?_
              refine lv_iconst (v := 1) hx hb dX8_readsWord_171 (by decide) ?_
              refine lv_iadd hx hb dX8_readsWord_172 ?_
              refine km_iast (t := 37) (i := 0) (n := 65) hx hb hK hw (by decide) (by decide) (fun _ => rfl) (by unfold vp_in; decide) dX8_readsWord_173 (fun H locs hw => ?_)
              obtain ⟨v711, ev711⟩ : ∃ z, z = up3 v710 37 0 (Int32.toNatClampNeg 3) ((v710 37 0 (Int32.toNatClampNeg 3)) + 1) := ⟨_, rfl⟩
              rw [← ev711] at hw
              have hF := hF.trans (kb_some (congrArg some ev711.symm) _)
              exact hret _ _ _ _ _ hw dX8_readsWord_174 hF
        · skip
          have hF := hF.trans (if_pos c679)
          refine lv_iconst (v := 1) hx hb dX8_readsWord_98 (by decide) ?_
          refine lv_goto (tgt := 103) hx hb dX8_readsWord_99 (by decide) ?_
          refine lv_iconst (v := 2) hx hb dX8_readsWord_103 (by decide) ?_
          have hs712 : g_X8_takes v671 1 2 ≠ none := fun q => hs (hF.trans (kb2_n q _))
          refine km_cI (As := [.int 1, .int 2]) (rest := []) (n := 2) (q := (RX8, TX8, 23)) (ci := 8) (t := 30) (i := 0) ⟨hx, hb, hml, hown, hts⟩ (d_X8_takes l E Z v671 1 2 hs712) gX8_readsWord_X8_takes rfl hV_X8_takes ⟨Nat.le_of_ble_eq_true rfl, Nat.le_of_ble_eq_true rfl⟩ hK hw (by decide) (by decide) rfl rfl rfl hl.1 rfl (Nat.le_of_ble_eq_true rfl) dX8_readsWord_104 rfl rfl (fun r713 v714 H locs hp hw => ?_)
          have hF := hF.trans (kb2_some hp _)
          refine lv_bipush (v := 97) hx hb dX8_readsWord_107 (by decide) ?_
          refine lv_isub hx hb dX8_readsWord_109 ?_
          refine lv_istore (lv' := [(4, .int (r713 - 97)), (3, .int r670), (2, .int r667), (1, .int x665), (0, .ref (Z.1 30 0))]) hx hb dX8_readsWord_110 hl (by decide) rfl (fun ls hl => ?_)
          refine lv_aload_n hx hb dX8_readsWord_112 rfl (lv_at hl 4 rfl) ?_
          refine lv_aload_n hx hb dX8_readsWord_113 rfl (lv_at hl 4 rfl) ?_
          refine km_get (ci := 8) (C := RX8) (T := TX8) (N := 23) (t := 30) (i := 0) hx hb hts fi_X8_readsWord_X8 hown hK hw (by decide) (by decide) rfl rfl 11 (by decide) (hts (.fieldLink RX8 98 "WrongWordModel" "token" "I") ow_X8_readsWord_98) rfl dX8_readsWord_114 ?_
          refine lv_iconst (v := 4) hx hb dX8_readsWord_117 (by decide) ?_
          refine lv_icmp_ne (tgt := 125) hx hb dX8_readsWord_118 (by decide) (fun c715 => ?_) (fun c715 => ?_)
          · skip
            have hF := hF.trans (if_neg c715)
            refine lv_iconst (v := 0) hx hb dX8_readsWord_125 (by decide) ?_
            refine lv_iconst (v := 1) hx hb dX8_readsWord_126 (by decide) ?_
            have hs716 : g_X8_takes v714 0 1 ≠ none := fun q => hs (hF.trans (kb2_n q _))
            refine km_cI (As := [.int 0, .int 1]) (rest := []) (n := 2) (q := (RX8, TX8, 23)) (ci := 8) (t := 30) (i := 0) ⟨hx, hb, hml, hown, hts⟩ (d_X8_takes l E Z v714 0 1 hs716) gX8_readsWord_X8_takes rfl hV_X8_takes ⟨Nat.le_of_ble_eq_true rfl, Nat.le_of_ble_eq_true rfl⟩ hK hw (by decide) (by decide) rfl rfl rfl hl.1 rfl (Nat.le_of_ble_eq_true rfl) dX8_readsWord_127 rfl rfl (fun r717 v718 H locs hp hw => ?_)
            have hF := hF.trans (kb2_some hp _)
            refine lv_pop hx hb dX8_readsWord_130 rfl ?_
            refine lv_aload_n hx hb dX8_readsWord_131 rfl (lv_at hl 4 rfl) ?_
            have hs719 : g_X8_isWell v718 ≠ none := fun q => hs (hF.trans (kb_n q _))
            refine km_cI (As := []) (rest := []) (n := 0) (q := (RX8, TX8, 23)) (ci := 8) (t := 30) (i := 0) ⟨hx, hb, hml, hown, hts⟩ (d_X8_isWell l E Z v718  hs719) gX8_readsWord_X8_isWell rfl hV_X8_isWell ⟨Nat.le_of_ble_eq_true rfl, Nat.le_of_ble_eq_true rfl⟩ hK hw (by decide) (by decide) rfl rfl rfl hl.1 rfl (Nat.le_of_ble_eq_true rfl) dX8_readsWord_132 rfl rfl (fun r720 v721 H locs hp hw => ?_)
            obtain ⟨hp, hzr720⟩ := hp
            obtain ⟨hp, rfl⟩ := hp
            have hF := hF.trans (kb_some hp _)
            refine lv_if_eq (tgt := 174) hx hb dX8_readsWord_135 (by decide) (fun c722 => ?_) (fun c722 => ?_)
            · skip
              have hF := hF.trans (if_pos c722)
              exact hret _ _ _ _ _ hw dX8_readsWord_174 hF
            · skip
              have hF := hF.trans (if_neg c722)
              refine lv_aload_n hx hb dX8_readsWord_138 rfl (lv_at hl 4 rfl) ?_
              refine km_get (ci := 8) (C := RX8) (T := TX8) (N := 23) (t := 30) (i := 0) hx hb hts fi_X8_readsWord_X8 hown hK hw (by decide) (by decide) rfl rfl 14 (by decide) (hts (.fieldLink RX8 28 "WrongWordModel" "draft" "[I") ow_X8_readsWord_28) rfl dX8_readsWord_139 ?_
              refine lv_iload_n hx hb dX8_readsWord_142 rfl (lv_at hl 3 rfl) ?_
              refine lv_iload_n hx hb dX8_readsWord_143 rfl (lv_at hl 2 rfl) ?_
              have hb723 : ¬ (x665 < 0 ∨ 65 ≤ Int32.toNatClampNeg x665) := fun q => hs (hF.trans (if_pos q))
              have hF := hF.trans (if_neg hb723)
              refine km_iast (t := 37) (i := 0) (n := 65) hx hb hK hw (by decide) (by decide) (fun _ => rfl) hb723 dX8_readsWord_144 (fun H locs hw => ?_)
              obtain ⟨v724, ev724⟩ : ∃ z, z = up3 v718 37 0 (Int32.toNatClampNeg x665) r667 := ⟨_, rfl⟩
              rw [← ev724] at hw
              have hF := hF.trans (kb_some (congrArg some ev724.symm) _)
              refine lv_aload_n hx hb dX8_readsWord_145 rfl (lv_at hl 4 rfl) ?_
              refine km_get (ci := 8) (C := RX8) (T := TX8) (N := 23) (t := 30) (i := 0) hx hb hts fi_X8_readsWord_X8 hown hK hw (by decide) (by decide) rfl rfl 14 (by decide) (hts (.fieldLink RX8 28 "WrongWordModel" "draft" "[I") ow_X8_readsWord_28) rfl dX8_readsWord_146 ?_
              refine lv_iload_n hx hb dX8_readsWord_149 rfl (lv_at hl 3 rfl) ?_
              refine lv_iconst (v := 1) hx hb dX8_readsWord_150 (by decide) ?_
              refine lv_iadd hx hb dX8_readsWord_151 ?_
              refine lv_iload_n hx hb dX8_readsWord_152 rfl (lv_at hl 1 rfl) ?_
              have hb725 : ¬ (x665 + 1 < 0 ∨ 65 ≤ Int32.toNatClampNeg (x665 + 1)) := fun q => hs (hF.trans (if_pos q))
              have hF := hF.trans (if_neg hb725)
              refine km_iast (t := 37) (i := 0) (n := 65) hx hb hK hw (by decide) (by decide) (fun _ => rfl) hb725 dX8_readsWord_153 (fun H locs hw => ?_)
              obtain ⟨v726, ev726⟩ : ∃ z, z = up3 v724 37 0 (Int32.toNatClampNeg (x665 + 1)) r670 := ⟨_, rfl⟩
              rw [← ev726] at hw
              have hF := hF.trans (kb_some (congrArg some ev726.symm) _)
              refine lv_aload_n hx hb dX8_readsWord_154 rfl (lv_at hl 4 rfl) ?_
              refine km_get (ci := 8) (C := RX8) (T := TX8) (N := 23) (t := 30) (i := 0) hx hb hts fi_X8_readsWord_X8 hown hK hw (by decide) (by decide) rfl rfl 14 (by decide) (hts (.fieldLink RX8 28 "WrongWordModel" "draft" "[I") ow_X8_readsWord_28) rfl dX8_readsWord_155 ?_
              refine lv_iload_n hx hb dX8_readsWord_158 rfl (lv_at hl 3 rfl) ?_
              refine lv_iconst (v := 2) hx hb dX8_readsWord_159 (by decide) ?_
              refine lv_iadd hx hb dX8_readsWord_160 ?_
              refine lv_iload hx hb dX8_readsWord_161 (lv_at hl 0 rfl) ?_
              have hb727 : ¬ (x665 + 2 < 0 ∨ 65 ≤ Int32.toNatClampNeg (x665 + 2)) := fun q => hs (hF.trans (if_pos q))
              have hF := hF.trans (if_neg hb727)
              refine km_iast (t := 37) (i := 0) (n := 65) hx hb hK hw (by decide) (by decide) (fun _ => rfl) hb727 dX8_readsWord_163 (fun H locs hw => ?_)
              obtain ⟨v728, ev728⟩ : ∃ z, z = up3 v726 37 0 (Int32.toNatClampNeg (x665 + 2)) (r713 - 97) := ⟨_, rfl⟩
              rw [← ev728] at hw
              have hF := hF.trans (kb_some (congrArg some ev728.symm) _)
              refine lv_aload_n hx hb dX8_readsWord_164 rfl (lv_at hl 4 rfl) ?_
              refine km_get (ci := 8) (C := RX8) (T := TX8) (N := 23) (t := 30) (i := 0) hx hb hts fi_X8_readsWord_X8 hown hK hw (by decide) (by decide) rfl rfl 14 (by decide) (hts (.fieldLink RX8 28 "WrongWordModel" "draft" "[I") ow_X8_readsWord_28) rfl dX8_readsWord_165 ?_
              refine lv_iconst (v := 3) hx hb dX8_readsWord_168 (by decide) ?_
              refine lv_dup2_11 hx hb dX8_readsWord_169 rfl rfl ?_
              refine km_iald (t := 37) (i := 0) hx hb hK hw (by decide) (by decide) rfl (by unfold vp_in; decide) dX8_readsWord_170 ?_
              refine lv_iconst (v := 1) hx hb dX8_readsWord_171 (by decide) ?_
              refine lv_iadd hx hb dX8_readsWord_172 ?_
              refine km_iast (t := 37) (i := 0) (n := 65) hx hb hK hw (by decide) (by decide) (fun _ => rfl) (by unfold vp_in; decide) dX8_readsWord_173 (fun H locs hw => ?_)
              obtain ⟨v729, ev729⟩ : ∃ z, z = up3 v728 37 0 (Int32.toNatClampNeg 3) ((v728 37 0 (Int32.toNatClampNeg 3)) + 1) := ⟨_, rfl⟩
              rw [← ev729] at hw
              have hF := hF.trans (kb_some (congrArg some ev729.symm) _)
              exact hret _ _ _ _ _ hw dX8_readsWord_174 hF
          · skip
            have hF := hF.trans (if_pos c715)
            refine lv_iconst (v := 1) hx hb dX8_readsWord_121 (by decide) ?_
            refine lv_goto (tgt := 126) hx hb dX8_readsWord_122 (by decide) ?_
            refine lv_iconst (v := 1) hx hb dX8_readsWord_126 (by decide) ?_
            have hs730 : g_X8_takes v714 1 1 ≠ none := fun q => hs (hF.trans (kb2_n q _))
            refine km_cI (As := [.int 1, .int 1]) (rest := []) (n := 2) (q := (RX8, TX8, 23)) (ci := 8) (t := 30) (i := 0) ⟨hx, hb, hml, hown, hts⟩ (d_X8_takes l E Z v714 1 1 hs730) gX8_readsWord_X8_takes rfl hV_X8_takes ⟨Nat.le_of_ble_eq_true rfl, Nat.le_of_ble_eq_true rfl⟩ hK hw (by decide) (by decide) rfl rfl rfl hl.1 rfl (Nat.le_of_ble_eq_true rfl) dX8_readsWord_127 rfl rfl (fun r731 v732 H locs hp hw => ?_)
            have hF := hF.trans (kb2_some hp _)
            refine lv_pop hx hb dX8_readsWord_130 rfl ?_
            refine lv_aload_n hx hb dX8_readsWord_131 rfl (lv_at hl 4 rfl) ?_
            have hs733 : g_X8_isWell v732 ≠ none := fun q => hs (hF.trans (kb_n q _))
            refine km_cI (As := []) (rest := []) (n := 0) (q := (RX8, TX8, 23)) (ci := 8) (t := 30) (i := 0) ⟨hx, hb, hml, hown, hts⟩ (d_X8_isWell l E Z v732  hs733) gX8_readsWord_X8_isWell rfl hV_X8_isWell ⟨Nat.le_of_ble_eq_true rfl, Nat.le_of_ble_eq_true rfl⟩ hK hw (by decide) (by decide) rfl rfl rfl hl.1 rfl (Nat.le_of_ble_eq_true rfl) dX8_readsWord_132 rfl rfl (fun r734 v735 H locs hp hw => ?_)
            obtain ⟨hp, hzr734⟩ := hp
            obtain ⟨hp, rfl⟩ := hp
            have hF := hF.trans (kb_some hp _)
            refine lv_if_eq (tgt := 174) hx hb dX8_readsWord_135 (by decide) (fun c736 => ?_) (fun c736 => ?_)
            · skip
              have hF := hF.trans (if_pos c736)
              exact hret _ _ _ _ _ hw dX8_readsWord_174 hF
            · skip
              have hF := hF.trans (if_neg c736)
              refine lv_aload_n hx hb dX8_readsWord_138 rfl (lv_at hl 4 rfl) ?_
              refine km_get (ci := 8) (C := RX8) (T := TX8) (N := 23) (t := 30) (i := 0) hx hb hts fi_X8_readsWord_X8 hown hK hw (by decide) (by decide) rfl rfl 14 (by decide) (hts (.fieldLink RX8 28 "WrongWordModel" "draft" "[I") ow_X8_readsWord_28) rfl dX8_readsWord_139 ?_
              refine lv_iload_n hx hb dX8_readsWord_142 rfl (lv_at hl 3 rfl) ?_
              refine lv_iload_n hx hb dX8_readsWord_143 rfl (lv_at hl 2 rfl) ?_
              have hb737 : ¬ (x665 < 0 ∨ 65 ≤ Int32.toNatClampNeg x665) := fun q => hs (hF.trans (if_pos q))
              have hF := hF.trans (if_neg hb737)
              refine km_iast (t := 37) (i := 0) (n := 65) hx hb hK hw (by decide) (by decide) (fun _ => rfl) hb737 dX8_readsWord_144 (fun H locs hw => ?_)
              obtain ⟨v738, ev738⟩ : ∃ z, z = up3 v732 37 0 (Int32.toNatClampNeg x665) r667 := ⟨_, rfl⟩
              rw [← ev738] at hw
              have hF := hF.trans (kb_some (congrArg some ev738.symm) _)
              refine lv_aload_n hx hb dX8_readsWord_145 rfl (lv_at hl 4 rfl) ?_
              refine km_get (ci := 8) (C := RX8) (T := TX8) (N := 23) (t := 30) (i := 0) hx hb hts fi_X8_readsWord_X8 hown hK hw (by decide) (by decide) rfl rfl 14 (by decide) (hts (.fieldLink RX8 28 "WrongWordModel" "draft" "[I") ow_X8_readsWord_28) rfl dX8_readsWord_146 ?_
              refine lv_iload_n hx hb dX8_readsWord_149 rfl (lv_at hl 3 rfl) ?_
              refine lv_iconst (v := 1) hx hb dX8_readsWord_150 (by decide) ?_
              refine lv_iadd hx hb dX8_readsWord_151 ?_
              refine lv_iload_n hx hb dX8_readsWord_152 rfl (lv_at hl 1 rfl) ?_
              have hb739 : ¬ (x665 + 1 < 0 ∨ 65 ≤ Int32.toNatClampNeg (x665 + 1)) := fun q => hs (hF.trans (if_pos q))
              have hF := hF.trans (if_neg hb739)
              refine km_iast (t := 37) (i := 0) (n := 65) hx hb hK hw (by decide) (by decide) (fun _ => rfl) hb739 dX8_readsWord_153 (fun H locs hw => ?_)
              obtain ⟨v740, ev740⟩ : ∃ z, z = up3 v738 37 0 (Int32.toNatClampNeg (x665 + 1)) r670 := ⟨_, rfl⟩
              rw [← ev740] at hw
              have hF := hF.trans (kb_some (congrArg some ev740.symm) _)
              refine lv_aload_n hx hb dX8_readsWord_154 rfl (lv_at hl 4 rfl) ?_
              refine km_get (ci := 8) (C := RX8) (T := TX8) (N := 23) (t := 30) (i := 0) hx hb hts fi_X8_readsWord_X8 hown hK hw (by decide) (by decide) rfl rfl 14 (by decide) (hts (.fieldLink RX8 28 "WrongWordModel" "draft" "[I") ow_X8_readsWord_28) rfl dX8_readsWord_155 ?_
              refine lv_iload_n hx hb dX8_readsWord_158 rfl (lv_at hl 3 rfl) ?_
              refine lv_iconst (v := 2) hx hb dX8_readsWord_159 (by decide) ?_
              refine lv_iadd hx hb dX8_readsWord_160 ?_
              refine lv_iload hx hb dX8_readsWord_161 (lv_at hl 0 rfl) ?_
              have hb741 : ¬ (x665 + 2 < 0 ∨ 65 ≤ Int32.toNatClampNeg (x665 + 2)) := fun q => hs (hF.trans (if_pos q))
              have hF := hF.trans (if_neg hb741)
              refine km_iast (t := 37) (i := 0) (n := 65) hx hb hK hw (by decide) (by decide) (fun _ => rfl) hb741 dX8_readsWord_163 (fun H locs hw => ?_)
              obtain ⟨v742, ev742⟩ : ∃ z, z = up3 v740 37 0 (Int32.toNatClampNeg (x665 + 2)) (r713 - 97) := ⟨_, rfl⟩
              rw [← ev742] at hw
              have hF := hF.trans (kb_some (congrArg some ev742.symm) _)
              refine lv_aload_n hx hb dX8_readsWord_164 rfl (lv_at hl 4 rfl) ?_
              refine km_get (ci := 8) (C := RX8) (T := TX8) (N := 23) (t := 30) (i := 0) hx hb hts fi_X8_readsWord_X8 hown hK hw (by decide) (by decide) rfl rfl 14 (by decide) (hts (.fieldLink RX8 28 "WrongWordModel" "draft" "[I") ow_X8_readsWord_28) rfl dX8_readsWord_165 ?_
              refine lv_iconst (v := 3) hx hb dX8_readsWord_168 (by decide) ?_
              refine lv_dup2_11 hx hb dX8_readsWord_169 rfl rfl ?_
              refine km_iald (t := 37) (i := 0) hx hb hK hw (by decide) (by decide) rfl (by unfold vp_in; decide) dX8_readsWord_170 ?_
              refine lv_iconst (v := 1) hx hb dX8_readsWord_171 (by decide) ?_
              refine lv_iadd hx hb dX8_readsWord_172 ?_
              refine km_iast (t := 37) (i := 0) (n := 65) hx hb hK hw (by decide) (by decide) (fun _ => rfl) (by unfold vp_in; decide) dX8_readsWord_173 (fun H locs hw => ?_)
              obtain ⟨v743, ev743⟩ : ∃ z, z = up3 v742 37 0 (Int32.toNatClampNeg 3) ((v742 37 0 (Int32.toNatClampNeg 3)) + 1) := ⟨_, rfl⟩
              rw [← ev743] at hw
              have hF := hF.trans (kb_some (congrArg some ev743.symm) _)
              exact hret _ _ _ _ _ hw dX8_readsWord_174 hF
      · skip
        have hF := hF.trans (if_neg c675)
        refine lv_aload_n hx hb dX8_readsWord_66 rfl (lv_at hl 3 rfl) ?_
        refine km_get (ci := 8) (C := RX8) (T := TX8) (N := 23) (t := 30) (i := 0) hx hb hts fi_X8_readsWord_X8 hown hK hw (by decide) (by decide) rfl rfl 11 (by decide) (hts (.fieldLink RX8 98 "WrongWordModel" "token" "I") ow_X8_readsWord_98) rfl dX8_readsWord_67 ?_
        refine lv_iconst (v := 1) hx hb dX8_readsWord_70 (by decide) ?_
        refine lv_icmp_eq (tgt := 81) hx hb dX8_readsWord_71 (by decide) (fun c744 => ?_) (fun c744 => ?_)
        · skip
          have hF := hF.trans (if_pos c744)
          refine lv_aload_n hx hb dX8_readsWord_81 rfl (lv_at hl 3 rfl) ?_
          refine lv_aload_n hx hb dX8_readsWord_82 rfl (lv_at hl 3 rfl) ?_
          refine lv_iload_n hx hb dX8_readsWord_83 rfl (lv_at hl 1 rfl) ?_
          refine lv_iload_n hx hb dX8_readsWord_84 rfl (lv_at hl 0 rfl) ?_
          refine lv_aload_n hx hb dX8_readsWord_85 rfl (lv_at hl 3 rfl) ?_
          refine km_get (ci := 8) (C := RX8) (T := TX8) (N := 23) (t := 30) (i := 0) hx hb hts fi_X8_readsWord_X8 hown hK hw (by decide) (by decide) rfl rfl 12 (by decide) (hts (.fieldLink RX8 95 "WrongWordModel" "value" "I") ow_X8_readsWord_95) rfl dX8_readsWord_86 ?_
          refine lv_bipush (v := 97) hx hb dX8_readsWord_89 (by decide) ?_
          refine lv_isub hx hb dX8_readsWord_91 ?_
          have hs745 : g_X8_isTold v671 r667 r670 ((v671 30 0 12) - 97) ≠ none := fun q => hs (hF.trans (kb_n q _))
          refine km_cI (As := [.int r667, .int r670, .int ((v671 30 0 12) - 97)]) (rest := [.ref (Z.1 30 0)]) (n := 3) (q := (RX8, TX8, 23)) (ci := 8) (t := 30) (i := 0) ⟨hx, hb, hml, hown, hts⟩ (d_X8_isTold l E Z v671 r667 r670 ((v671 30 0 12) - 97) hs745) gX8_readsWord_X8_isTold rfl hV_X8_isTold ⟨Nat.le_of_ble_eq_true rfl, Nat.le_of_ble_eq_true rfl⟩ hK hw (by decide) (by decide) rfl rfl rfl hl.1 rfl (Nat.le_of_ble_eq_true rfl) dX8_readsWord_92 rfl rfl (fun r746 v747 H locs hp hw => ?_)
          obtain ⟨hp, hzr746⟩ := hp
          obtain ⟨hp, rfl⟩ := hp
          have hF := hF.trans (kb_some hp _)
          refine lv_if_ne (tgt := 102) hx hb dX8_readsWord_95 (by decide) (fun c748 => ?_) (fun c748 => ?_)
          · skip
            have hF := hF.trans (if_neg c748)
            refine lv_iconst (v := 0) hx hb dX8_readsWord_102 (by decide) ?_
            refine lv_iconst (v := 2) hx hb dX8_readsWord_103 (by decide) ?_
            have hs749 : g_X8_takes v671 0 2 ≠ none := fun q => hs (hF.trans (kb2_n q _))
            refine km_cI (As := [.int 0, .int 2]) (rest := []) (n := 2) (q := (RX8, TX8, 23)) (ci := 8) (t := 30) (i := 0) ⟨hx, hb, hml, hown, hts⟩ (d_X8_takes l E Z v671 0 2 hs749) gX8_readsWord_X8_takes rfl hV_X8_takes ⟨Nat.le_of_ble_eq_true rfl, Nat.le_of_ble_eq_true rfl⟩ hK hw (by decide) (by decide) rfl rfl rfl hl.1 rfl (Nat.le_of_ble_eq_true rfl) dX8_readsWord_104 rfl rfl (fun r750 v751 H locs hp hw => ?_)
            have hF := hF.trans (kb2_some hp _)
            refine lv_bipush (v := 97) hx hb dX8_readsWord_107 (by decide) ?_
            refine lv_isub hx hb dX8_readsWord_109 ?_
            refine lv_istore (lv' := [(4, .int (r750 - 97)), (3, .int r670), (2, .int r667), (1, .int x665), (0, .ref (Z.1 30 0))]) hx hb dX8_readsWord_110 hl (by decide) rfl (fun ls hl => ?_)
            refine lv_aload_n hx hb dX8_readsWord_112 rfl (lv_at hl 4 rfl) ?_
            refine lv_aload_n hx hb dX8_readsWord_113 rfl (lv_at hl 4 rfl) ?_
            refine km_get (ci := 8) (C := RX8) (T := TX8) (N := 23) (t := 30) (i := 0) hx hb hts fi_X8_readsWord_X8 hown hK hw (by decide) (by decide) rfl rfl 11 (by decide) (hts (.fieldLink RX8 98 "WrongWordModel" "token" "I") ow_X8_readsWord_98) rfl dX8_readsWord_114 ?_
            refine lv_iconst (v := 4) hx hb dX8_readsWord_117 (by decide) ?_
            refine lv_icmp_ne (tgt := 125) hx hb dX8_readsWord_118 (by decide) (fun c752 => ?_) (fun c752 => ?_)
            · skip
              have hF := hF.trans (if_neg c752)
              refine lv_iconst (v := 0) hx hb dX8_readsWord_125 (by decide) ?_
              refine lv_iconst (v := 1) hx hb dX8_readsWord_126 (by decide) ?_
              have hs753 : g_X8_takes v751 0 1 ≠ none := fun q => hs (hF.trans (kb2_n q _))
              refine km_cI (As := [.int 0, .int 1]) (rest := []) (n := 2) (q := (RX8, TX8, 23)) (ci := 8) (t := 30) (i := 0) ⟨hx, hb, hml, hown, hts⟩ (d_X8_takes l E Z v751 0 1 hs753) gX8_readsWord_X8_takes rfl hV_X8_takes ⟨Nat.le_of_ble_eq_true rfl, Nat.le_of_ble_eq_true rfl⟩ hK hw (by decide) (by decide) rfl rfl rfl hl.1 rfl (Nat.le_of_ble_eq_true rfl) dX8_readsWord_127 rfl rfl (fun r754 v755 H locs hp hw => ?_)
              have hF := hF.trans (kb2_some hp _)
              refine lv_pop hx hb dX8_readsWord_130 rfl ?_
              refine lv_aload_n hx hb dX8_readsWord_131 rfl (lv_at hl 4 rfl) ?_
              have hs756 : g_X8_isWell v755 ≠ none := fun q => hs (hF.trans (kb_n q _))
              refine km_cI (As := []) (rest := []) (n := 0) (q := (RX8, TX8, 23)) (ci := 8) (t := 30) (i := 0) ⟨hx, hb, hml, hown, hts⟩ (d_X8_isWell l E Z v755  hs756) gX8_readsWord_X8_isWell rfl hV_X8_isWell ⟨Nat.le_of_ble_eq_true rfl, Nat.le_of_ble_eq_true rfl⟩ hK hw (by decide) (by decide) rfl rfl rfl hl.1 rfl (Nat.le_of_ble_eq_true rfl) dX8_readsWord_132 rfl rfl (fun r757 v758 H locs hp hw => ?_)
              obtain ⟨hp, hzr757⟩ := hp
              obtain ⟨hp, rfl⟩ := hp
              have hF := hF.trans (kb_some hp _)
              refine lv_if_eq (tgt := 174) hx hb dX8_readsWord_135 (by decide) (fun c759 => ?_) (fun c759 => ?_)
              · skip
                have hF := hF.trans (if_pos c759)
                exact hret _ _ _ _ _ hw dX8_readsWord_174 hF
              · skip
                have hF := hF.trans (if_neg c759)
                refine lv_aload_n hx hb dX8_readsWord_138 rfl (lv_at hl 4 rfl) ?_
                refine km_get (ci := 8) (C := RX8) (T := TX8) (N := 23) (t := 30) (i := 0) hx hb hts fi_X8_readsWord_X8 hown hK hw (by decide) (by decide) rfl rfl 14 (by decide) (hts (.fieldLink RX8 28 "WrongWordModel" "draft" "[I") ow_X8_readsWord_28) rfl dX8_readsWord_139 ?_
                refine lv_iload_n hx hb dX8_readsWord_142 rfl (lv_at hl 3 rfl) ?_
                refine lv_iload_n hx hb dX8_readsWord_143 rfl (lv_at hl 2 rfl) ?_
                have hb760 : ¬ (x665 < 0 ∨ 65 ≤ Int32.toNatClampNeg x665) := fun q => hs (hF.trans (if_pos q))
                have hF := hF.trans (if_neg hb760)
                refine km_iast (t := 37) (i := 0) (n := 65) hx hb hK hw (by decide) (by decide) (fun _ => rfl) hb760 dX8_readsWord_144 (fun H locs hw => ?_)
                obtain ⟨v761, ev761⟩ : ∃ z, z = up3 v755 37 0 (Int32.toNatClampNeg x665) r667 := ⟨_, rfl⟩
                rw [← ev761] at hw
                have hF := hF.trans (kb_some (congrArg some ev761.symm) _)
                refine lv_aload_n hx hb dX8_readsWord_145 rfl (lv_at hl 4 rfl) ?_
                refine km_get (ci := 8) (C := RX8) (T := TX8) (N := 23) (t := 30) (i := 0) hx hb hts fi_X8_readsWord_X8 hown hK hw (by decide) (by decide) rfl rfl 14 (by decide) (hts (.fieldLink RX8 28 "WrongWordModel" "draft" "[I") ow_X8_readsWord_28) rfl dX8_readsWord_146 ?_
                refine lv_iload_n hx hb dX8_readsWord_149 rfl (lv_at hl 3 rfl) ?_
                refine lv_iconst (v := 1) hx hb dX8_readsWord_150 (by decide) ?_
                refine lv_iadd hx hb dX8_readsWord_151 ?_
                refine lv_iload_n hx hb dX8_readsWord_152 rfl (lv_at hl 1 rfl) ?_
                have hb762 : ¬ (x665 + 1 < 0 ∨ 65 ≤ Int32.toNatClampNeg (x665 + 1)) := fun q => hs (hF.trans (if_pos q))
                have hF := hF.trans (if_neg hb762)
                refine km_iast (t := 37) (i := 0) (n := 65) hx hb hK hw (by decide) (by decide) (fun _ => rfl) hb762 dX8_readsWord_153 (fun H locs hw => ?_)
                obtain ⟨v763, ev763⟩ : ∃ z, z = up3 v761 37 0 (Int32.toNatClampNeg (x665 + 1)) r670 := ⟨_, rfl⟩
                rw [← ev763] at hw
                have hF := hF.trans (kb_some (congrArg some ev763.symm) _)
                refine lv_aload_n hx hb dX8_readsWord_154 rfl (lv_at hl 4 rfl) ?_
                refine km_get (ci := 8) (C := RX8) (T := TX8) (N := 23) (t := 30) (i := 0) hx hb hts fi_X8_readsWord_X8 hown hK hw (by decide) (by decide) rfl rfl 14 (by decide) (hts (.fieldLink RX8 28 "WrongWordModel" "draft" "[I") ow_X8_readsWord_28) rfl dX8_readsWord_155 ?_
                refine lv_iload_n hx hb dX8_readsWord_158 rfl (lv_at hl 3 rfl) ?_
                refine lv_iconst (v := 2) hx hb dX8_readsWord_159 (by decide) ?_
                refine lv_iadd hx hb dX8_readsWord_160 ?_
                refine lv_iload hx hb dX8_readsWord_161 (lv_at hl 0 rfl) ?_
                have hb764 : ¬ (x665 + 2 < 0 ∨ 65 ≤ Int32.toNatClampNeg (x665 + 2)) := fun q => hs (hF.trans (if_pos q))
                have hF := hF.trans (if_neg hb764)
                refine km_iast (t := 37) (i := 0) (n := 65) hx hb hK hw (by decide) (by decide) (fun _ => rfl) hb764 dX8_readsWord_163 (fun H locs hw => ?_)
                obtain ⟨v765, ev765⟩ : ∃ z, z = up3 v763 37 0 (Int32.toNatClampNeg (x665 + 2)) (r750 - 97) := ⟨_, rfl⟩
                rw [← ev765] at hw
                have hF := hF.trans (kb_some (congrArg some ev765.symm) _)
                refine lv_aload_n hx hb dX8_readsWord_164 rfl (lv_at hl 4 rfl) ?_
                refine km_get (ci := 8) (C := RX8) (T := TX8) (N := 23) (t := 30) (i := 0) hx hb hts fi_X8_readsWord_X8 hown hK hw (by decide) (by decide) rfl rfl 14 (by decide) (hts (.fieldLink RX8 28 "WrongWordModel" "draft" "[I") ow_X8_readsWord_28) rfl dX8_readsWord_165 ?_
                refine lv_iconst (v := 3) hx hb dX8_readsWord_168 (by decide) ?_
                refine lv_dup2_11 hx hb dX8_readsWord_169 rfl rfl ?_
                refine km_iald (t := 37) (i := 0) hx hb hK hw (by decide) (by decide) rfl (by unfold vp_in; decide) dX8_readsWord_170 ?_
                refine lv_iconst (v := 1) hx hb dX8_readsWord_171 (by decide) ?_
                refine lv_iadd hx hb dX8_readsWord_172 ?_
                refine km_iast (t := 37) (i := 0) (n := 65) hx hb hK hw (by decide) (by decide) (fun _ => rfl) (by unfold vp_in; decide) dX8_readsWord_173 (fun H locs hw => ?_)
                obtain ⟨v766, ev766⟩ : ∃ z, z = up3 v765 37 0 (Int32.toNatClampNeg 3) ((v765 37 0 (Int32.toNatClampNeg 3)) + 1) := ⟨_, rfl⟩
                rw [← ev766] at hw
                have hF := hF.trans (kb_some (congrArg some ev766.symm) _)
                exact hret _ _ _ _ _ hw dX8_readsWord_174 hF
            · skip
              have hF := hF.trans (if_pos c752)
              refine lv_iconst (v := 1) hx hb dX8_readsWord_121 (by decide) ?_
              refine lv_goto (tgt := 126) hx hb dX8_readsWord_122 (by decide) ?_
              refine lv_iconst (v := 1) hx hb dX8_readsWord_126 (by decide) ?_
              have hs767 : g_X8_takes v751 1 1 ≠ none := fun q => hs (hF.trans (kb2_n q _))
              refine km_cI (As := [.int 1, .int 1]) (rest := []) (n := 2) (q := (RX8, TX8, 23)) (ci := 8) (t := 30) (i := 0) ⟨hx, hb, hml, hown, hts⟩ (d_X8_takes l E Z v751 1 1 hs767) gX8_readsWord_X8_takes rfl hV_X8_takes ⟨Nat.le_of_ble_eq_true rfl, Nat.le_of_ble_eq_true rfl⟩ hK hw (by decide) (by decide) rfl rfl rfl hl.1 rfl (Nat.le_of_ble_eq_true rfl) dX8_readsWord_127 rfl rfl (fun r768 v769 H locs hp hw => ?_)
              have hF := hF.trans (kb2_some hp _)
              refine lv_pop hx hb dX8_readsWord_130 rfl ?_
              refine lv_aload_n hx hb dX8_readsWord_131 rfl (lv_at hl 4 rfl) ?_
              have hs770 : g_X8_isWell v769 ≠ none := fun q => hs (hF.trans (kb_n q _))
              refine km_cI (As := []) (rest := []) (n := 0) (q := (RX8, TX8, 23)) (ci := 8) (t := 30) (i := 0) ⟨hx, hb, hml, hown, hts⟩ (d_X8_isWell l E Z v769  hs770) gX8_readsWord_X8_isWell rfl hV_X8_isWell ⟨Nat.le_of_ble_eq_true rfl, Nat.le_of_ble_eq_true rfl⟩ hK hw (by decide) (by decide) rfl rfl rfl hl.1 rfl (Nat.le_of_ble_eq_true rfl) dX8_readsWord_132 rfl rfl (fun r771 v772 H locs hp hw => ?_)
              obtain ⟨hp, hzr771⟩ := hp
              obtain ⟨hp, rfl⟩ := hp
              have hF := hF.trans (kb_some hp _)
              refine lv_if_eq (tgt := 174) hx hb dX8_readsWord_135 (by decide) (fun c773 => ?_) (fun c773 => ?_)
              · skip
                have hF := hF.trans (if_pos c773)
                exact hret _ _ _ _ _ hw dX8_readsWord_174 hF
              · skip
                have hF := hF.trans (if_neg c773)
                refine lv_aload_n hx hb dX8_readsWord_138 rfl (lv_at hl 4 rfl) ?_
                refine km_get (ci := 8) (C := RX8) (T := TX8) (N := 23) (t := 30) (i := 0) hx hb hts fi_X8_readsWord_X8 hown hK hw (by decide) (by decide) rfl rfl 14 (by decide) (hts (.fieldLink RX8 28 "WrongWordModel" "draft" "[I") ow_X8_readsWord_28) rfl dX8_readsWord_139 ?_
                refine lv_iload_n hx hb dX8_readsWord_142 rfl (lv_at hl 3 rfl) ?_
                refine lv_iload_n hx hb dX8_readsWord_143 rfl (lv_at hl 2 rfl) ?_
                have hb774 : ¬ (x665 < 0 ∨ 65 ≤ Int32.toNatClampNeg x665) := fun q => hs (hF.trans (if_pos q))
                have hF := hF.trans (if_neg hb774)
                refine km_iast (t := 37) (i := 0) (n := 65) hx hb hK hw (by decide) (by decide) (fun _ => rfl) hb774 dX8_readsWord_144 (fun H locs hw => ?_)
                obtain ⟨v775, ev775⟩ : ∃ z, z = up3 v769 37 0 (Int32.toNatClampNeg x665) r667 := ⟨_, rfl⟩
                rw [← ev775] at hw
                have hF := hF.trans (kb_some (congrArg some ev775.symm) _)
                refine lv_aload_n hx hb dX8_readsWord_145 rfl (lv_at hl 4 rfl) ?_
                refine km_get (ci := 8) (C := RX8) (T := TX8) (N := 23) (t := 30) (i := 0) hx hb hts fi_X8_readsWord_X8 hown hK hw (by decide) (by decide) rfl rfl 14 (by decide) (hts (.fieldLink RX8 28 "WrongWordModel" "draft" "[I") ow_X8_readsWord_28) rfl dX8_readsWord_146 ?_
                refine lv_iload_n hx hb dX8_readsWord_149 rfl (lv_at hl 3 rfl) ?_
                refine lv_iconst (v := 1) hx hb dX8_readsWord_150 (by decide) ?_
                refine lv_iadd hx hb dX8_readsWord_151 ?_
                refine lv_iload_n hx hb dX8_readsWord_152 rfl (lv_at hl 1 rfl) ?_
                have hb776 : ¬ (x665 + 1 < 0 ∨ 65 ≤ Int32.toNatClampNeg (x665 + 1)) := fun q => hs (hF.trans (if_pos q))
                have hF := hF.trans (if_neg hb776)
                refine km_iast (t := 37) (i := 0) (n := 65) hx hb hK hw (by decide) (by decide) (fun _ => rfl) hb776 dX8_readsWord_153 (fun H locs hw => ?_)
                obtain ⟨v777, ev777⟩ : ∃ z, z = up3 v775 37 0 (Int32.toNatClampNeg (x665 + 1)) r670 := ⟨_, rfl⟩
                rw [← ev777] at hw
                have hF := hF.trans (kb_some (congrArg some ev777.symm) _)
                refine lv_aload_n hx hb dX8_readsWord_154 rfl (lv_at hl 4 rfl) ?_
                refine km_get (ci := 8) (C := RX8) (T := TX8) (N := 23) (t := 30) (i := 0) hx hb hts fi_X8_readsWord_X8 hown hK hw (by decide) (by decide) rfl rfl 14 (by decide) (hts (.fieldLink RX8 28 "WrongWordModel" "draft" "[I") ow_X8_readsWord_28) rfl dX8_readsWord_155 ?_
                refine lv_iload_n hx hb dX8_readsWord_158 rfl (lv_at hl 3 rfl) ?_
                refine lv_iconst (v := 2) hx hb dX8_readsWord_159 (by decide) ?_
                refine lv_iadd hx hb dX8_readsWord_160 ?_
                refine lv_iload hx hb dX8_readsWord_161 (lv_at hl 0 rfl) ?_
                have hb778 : ¬ (x665 + 2 < 0 ∨ 65 ≤ Int32.toNatClampNeg (x665 + 2)) := fun q => hs (hF.trans (if_pos q))
                have hF := hF.trans (if_neg hb778)
                refine km_iast (t := 37) (i := 0) (n := 65) hx hb hK hw (by decide) (by decide) (fun _ => rfl) hb778 dX8_readsWord_163 (fun H locs hw => ?_)
                obtain ⟨v779, ev779⟩ : ∃ z, z = up3 v777 37 0 (Int32.toNatClampNeg (x665 + 2)) (r750 - 97) := ⟨_, rfl⟩
                rw [← ev779] at hw
                have hF := hF.trans (kb_some (congrArg some ev779.symm) _)
                refine lv_aload_n hx hb dX8_readsWord_164 rfl (lv_at hl 4 rfl) ?_
                refine km_get (ci := 8) (C := RX8) (T := TX8) (N := 23) (t := 30) (i := 0) hx hb hts fi_X8_readsWord_X8 hown hK hw (by decide) (by decide) rfl rfl 14 (by decide) (hts (.fieldLink RX8 28 "WrongWordModel" "draft" "[I") ow_X8_readsWord_28) rfl dX8_readsWord_165 ?_
                refine lv_iconst (v := 3) hx hb dX8_readsWord_168 (by decide) ?_
                refine lv_dup2_11 hx hb dX8_readsWord_169 rfl rfl ?_
                refine km_iald (t := 37) (i := 0) hx hb hK hw (by decide) (by decide) rfl (by unfold vp_in; decide) dX8_readsWord_170 ?_
                refine lv_iconst (v := 1) hx hb dX8_readsWord_171 (by decide) ?_
                refine lv_iadd hx hb dX8_readsWord_172 ?_
                refine km_iast (t := 37) (i := 0) (n := 65) hx hb hK hw (by decide) (by decide) (fun _ => rfl) (by unfold vp_in; decide) dX8_readsWord_173 (fun H locs hw => ?_)
                obtain ⟨v780, ev780⟩ : ∃ z, z = up3 v779 37 0 (Int32.toNatClampNeg 3) ((v779 37 0 (Int32.toNatClampNeg 3)) + 1) := ⟨_, rfl⟩
                rw [← ev780] at hw
                have hF := hF.trans (kb_some (congrArg some ev780.symm) _)
                exact hret _ _ _ _ _ hw dX8_readsWord_174 hF
          · skip
            have hF := hF.trans (if_pos c748)
            refine lv_iconst (v := 1) hx hb dX8_readsWord_98 (by decide) ?_
            refine lv_goto (tgt := 103) hx hb dX8_readsWord_99 (by decide) ?_
            refine lv_iconst (v := 2) hx hb dX8_readsWord_103 (by decide) ?_
            have hs781 : g_X8_takes v671 1 2 ≠ none := fun q => hs (hF.trans (kb2_n q _))
            refine km_cI (As := [.int 1, .int 2]) (rest := []) (n := 2) (q := (RX8, TX8, 23)) (ci := 8) (t := 30) (i := 0) ⟨hx, hb, hml, hown, hts⟩ (d_X8_takes l E Z v671 1 2 hs781) gX8_readsWord_X8_takes rfl hV_X8_takes ⟨Nat.le_of_ble_eq_true rfl, Nat.le_of_ble_eq_true rfl⟩ hK hw (by decide) (by decide) rfl rfl rfl hl.1 rfl (Nat.le_of_ble_eq_true rfl) dX8_readsWord_104 rfl rfl (fun r782 v783 H locs hp hw => ?_)
            have hF := hF.trans (kb2_some hp _)
            refine lv_bipush (v := 97) hx hb dX8_readsWord_107 (by decide) ?_
            refine lv_isub hx hb dX8_readsWord_109 ?_
            refine lv_istore (lv' := [(4, .int (r782 - 97)), (3, .int r670), (2, .int r667), (1, .int x665), (0, .ref (Z.1 30 0))]) hx hb dX8_readsWord_110 hl (by decide) rfl (fun ls hl => ?_)
            refine lv_aload_n hx hb dX8_readsWord_112 rfl (lv_at hl 4 rfl) ?_
            refine lv_aload_n hx hb dX8_readsWord_113 rfl (lv_at hl 4 rfl) ?_
            refine km_get (ci := 8) (C := RX8) (T := TX8) (N := 23) (t := 30) (i := 0) hx hb hts fi_X8_readsWord_X8 hown hK hw (by decide) (by decide) rfl rfl 11 (by decide) (hts (.fieldLink RX8 98 "WrongWordModel" "token" "I") ow_X8_readsWord_98) rfl dX8_readsWord_114 ?_
            refine lv_iconst (v := 4) hx hb dX8_readsWord_117 (by decide) ?_
            refine lv_icmp_ne (tgt := 125) hx hb dX8_readsWord_118 (by decide) (fun c784 => ?_) (fun c784 => ?_)
            · skip
              have hF := hF.trans (if_neg c784)
              refine lv_iconst (v := 0) hx hb dX8_readsWord_125 (by decide) ?_
              refine lv_iconst (v := 1) hx hb dX8_readsWord_126 (by decide) ?_
              have hs785 : g_X8_takes v783 0 1 ≠ none := fun q => hs (hF.trans (kb2_n q _))
              refine km_cI (As := [.int 0, .int 1]) (rest := []) (n := 2) (q := (RX8, TX8, 23)) (ci := 8) (t := 30) (i := 0) ⟨hx, hb, hml, hown, hts⟩ (d_X8_takes l E Z v783 0 1 hs785) gX8_readsWord_X8_takes rfl hV_X8_takes ⟨Nat.le_of_ble_eq_true rfl, Nat.le_of_ble_eq_true rfl⟩ hK hw (by decide) (by decide) rfl rfl rfl hl.1 rfl (Nat.le_of_ble_eq_true rfl) dX8_readsWord_127 rfl rfl (fun r786 v787 H locs hp hw => ?_)
              have hF := hF.trans (kb2_some hp _)
              refine lv_pop hx hb dX8_readsWord_130 rfl ?_
              refine lv_aload_n hx hb dX8_readsWord_131 rfl (lv_at hl 4 rfl) ?_
              have hs788 : g_X8_isWell v787 ≠ none := fun q => hs (hF.trans (kb_n q _))
              refine km_cI (As := []) (rest := []) (n := 0) (q := (RX8, TX8, 23)) (ci := 8) (t := 30) (i := 0) ⟨hx, hb, hml, hown, hts⟩ (d_X8_isWell l E Z v787  hs788) gX8_readsWord_X8_isWell rfl hV_X8_isWell ⟨Nat.le_of_ble_eq_true rfl, Nat.le_of_ble_eq_true rfl⟩ hK hw (by decide) (by decide) rfl rfl rfl hl.1 rfl (Nat.le_of_ble_eq_true rfl) dX8_readsWord_132 rfl rfl (fun r789 v790 H locs hp hw => ?_)
              obtain ⟨hp, hzr789⟩ := hp
              obtain ⟨hp, rfl⟩ := hp
              have hF := hF.trans (kb_some hp _)
              refine lv_if_eq (tgt := 174) hx hb dX8_readsWord_135 (by decide) (fun c791 => ?_) (fun c791 => ?_)
              · skip
                have hF := hF.trans (if_pos c791)
                exact hret _ _ _ _ _ hw dX8_readsWord_174 hF
              · skip
                have hF := hF.trans (if_neg c791)
                refine lv_aload_n hx hb dX8_readsWord_138 rfl (lv_at hl 4 rfl) ?_
                refine km_get (ci := 8) (C := RX8) (T := TX8) (N := 23) (t := 30) (i := 0) hx hb hts fi_X8_readsWord_X8 hown hK hw (by decide) (by decide) rfl rfl 14 (by decide) (hts (.fieldLink RX8 28 "WrongWordModel" "draft" "[I") ow_X8_readsWord_28) rfl dX8_readsWord_139 ?_
                refine lv_iload_n hx hb dX8_readsWord_142 rfl (lv_at hl 3 rfl) ?_
                refine lv_iload_n hx hb dX8_readsWord_143 rfl (lv_at hl 2 rfl) ?_
                have hb792 : ¬ (x665 < 0 ∨ 65 ≤ Int32.toNatClampNeg x665) := fun q => hs (hF.trans (if_pos q))
                have hF := hF.trans (if_neg hb792)
                refine km_iast (t := 37) (i := 0) (n := 65) hx hb hK hw (by decide) (by decide) (fun _ => rfl) hb792 dX8_readsWord_144 (fun H locs hw => ?_)
                obtain ⟨v793, ev793⟩ : ∃ z, z = up3 v787 37 0 (Int32.toNatClampNeg x665) r667 := ⟨_, rfl⟩
                rw [← ev793] at hw
                have hF := hF.trans (kb_some (congrArg some ev793.symm) _)
                refine lv_aload_n hx hb dX8_readsWord_145 rfl (lv_at hl 4 rfl) ?_
                refine km_get (ci := 8) (C := RX8) (T := TX8) (N := 23) (t := 30) (i := 0) hx hb hts fi_X8_readsWord_X8 hown hK hw (by decide) (by decide) rfl rfl 14 (by decide) (hts (.fieldLink RX8 28 "WrongWordModel" "draft" "[I") ow_X8_readsWord_28) rfl dX8_readsWord_146 ?_
                refine lv_iload_n hx hb dX8_readsWord_149 rfl (lv_at hl 3 rfl) ?_
                refine lv_iconst (v := 1) hx hb dX8_readsWord_150 (by decide) ?_
                refine lv_iadd hx hb dX8_readsWord_151 ?_
                refine lv_iload_n hx hb dX8_readsWord_152 rfl (lv_at hl 1 rfl) ?_
                have hb794 : ¬ (x665 + 1 < 0 ∨ 65 ≤ Int32.toNatClampNeg (x665 + 1)) := fun q => hs (hF.trans (if_pos q))
                have hF := hF.trans (if_neg hb794)
                refine km_iast (t := 37) (i := 0) (n := 65) hx hb hK hw (by decide) (by decide) (fun _ => rfl) hb794 dX8_readsWord_153 (fun H locs hw => ?_)
                obtain ⟨v795, ev795⟩ : ∃ z, z = up3 v793 37 0 (Int32.toNatClampNeg (x665 + 1)) r670 := ⟨_, rfl⟩
                rw [← ev795] at hw
                have hF := hF.trans (kb_some (congrArg some ev795.symm) _)
                refine lv_aload_n hx hb dX8_readsWord_154 rfl (lv_at hl 4 rfl) ?_
                refine km_get (ci := 8) (C := RX8) (T := TX8) (N := 23) (t := 30) (i := 0) hx hb hts fi_X8_readsWord_X8 hown hK hw (by decide) (by decide) rfl rfl 14 (by decide) (hts (.fieldLink RX8 28 "WrongWordModel" "draft" "[I") ow_X8_readsWord_28) rfl dX8_readsWord_155 ?_
                refine lv_iload_n hx hb dX8_readsWord_158 rfl (lv_at hl 3 rfl) ?_
                refine lv_iconst (v := 2) hx hb dX8_readsWord_159 (by decide) ?_
                refine lv_iadd hx hb dX8_readsWord_160 ?_
                refine lv_iload hx hb dX8_readsWord_161 (lv_at hl 0 rfl) ?_
                have hb796 : ¬ (x665 + 2 < 0 ∨ 65 ≤ Int32.toNatClampNeg (x665 + 2)) := fun q => hs (hF.trans (if_pos q))
                have hF := hF.trans (if_neg hb796)
                refine km_iast (t := 37) (i := 0) (n := 65) hx hb hK hw (by decide) (by decide) (fun _ => rfl) hb796 dX8_readsWord_163 (fun H locs hw => ?_)
                obtain ⟨v797, ev797⟩ : ∃ z, z = up3 v795 37 0 (Int32.toNatClampNeg (x665 + 2)) (r782 - 97) := ⟨_, rfl⟩
                rw [← ev797] at hw
                have hF := hF.trans (kb_some (congrArg some ev797.symm) _)
                refine lv_aload_n hx hb dX8_readsWord_164 rfl (lv_at hl 4 rfl) ?_
                refine km_get (ci := 8) (C := RX8) (T := TX8) (N := 23) (t := 30) (i := 0) hx hb hts fi_X8_readsWord_X8 hown hK hw (by decide) (by decide) rfl rfl 14 (by decide) (hts (.fieldLink RX8 28 "WrongWordModel" "draft" "[I") ow_X8_readsWord_28) rfl dX8_readsWord_165 ?_
                refine lv_iconst (v := 3) hx hb dX8_readsWord_168 (by decide) ?_
                refine lv_dup2_11 hx hb dX8_readsWord_169 rfl rfl ?_
                refine km_iald (t := 37) (i := 0) hx hb hK hw (by decide) (by decide) rfl (by unfold vp_in; decide) dX8_readsWord_170 ?_
                refine lv_iconst (v := 1) hx hb dX8_readsWord_171 (by decide) ?_
                refine lv_iadd hx hb dX8_readsWord_172 ?_
                refine km_iast (t := 37) (i := 0) (n := 65) hx hb hK hw (by decide) (by decide) (fun _ => rfl) (by unfold vp_in; decide) dX8_readsWord_173 (fun H locs hw => ?_)
                obtain ⟨v798, ev798⟩ : ∃ z, z = up3 v797 37 0 (Int32.toNatClampNeg 3) ((v797 37 0 (Int32.toNatClampNeg 3)) + 1) := ⟨_, rfl⟩
                rw [← ev798] at hw
                have hF := hF.trans (kb_some (congrArg some ev798.symm) _)
                exact hret _ _ _ _ _ hw dX8_readsWord_174 hF
            · skip
              have hF := hF.trans (if_pos c784)
              refine lv_iconst (v := 1) hx hb dX8_readsWord_121 (by decide) ?_
              refine lv_goto (tgt := 126) hx hb dX8_readsWord_122 (by decide) ?_
              refine lv_iconst (v := 1) hx hb dX8_readsWord_126 (by decide) ?_
              have hs799 : g_X8_takes v783 1 1 ≠ none := fun q => hs (hF.trans (kb2_n q _))
              refine km_cI (As := [.int 1, .int 1]) (rest := []) (n := 2) (q := (RX8, TX8, 23)) (ci := 8) (t := 30) (i := 0) ⟨hx, hb, hml, hown, hts⟩ (d_X8_takes l E Z v783 1 1 hs799) gX8_readsWord_X8_takes rfl hV_X8_takes ⟨Nat.le_of_ble_eq_true rfl, Nat.le_of_ble_eq_true rfl⟩ hK hw (by decide) (by decide) rfl rfl rfl hl.1 rfl (Nat.le_of_ble_eq_true rfl) dX8_readsWord_127 rfl rfl (fun r800 v801 H locs hp hw => ?_)
              have hF := hF.trans (kb2_some hp _)
              refine lv_pop hx hb dX8_readsWord_130 rfl ?_
              refine lv_aload_n hx hb dX8_readsWord_131 rfl (lv_at hl 4 rfl) ?_
              have hs802 : g_X8_isWell v801 ≠ none := fun q => hs (hF.trans (kb_n q _))
              refine km_cI (As := []) (rest := []) (n := 0) (q := (RX8, TX8, 23)) (ci := 8) (t := 30) (i := 0) ⟨hx, hb, hml, hown, hts⟩ (d_X8_isWell l E Z v801  hs802) gX8_readsWord_X8_isWell rfl hV_X8_isWell ⟨Nat.le_of_ble_eq_true rfl, Nat.le_of_ble_eq_true rfl⟩ hK hw (by decide) (by decide) rfl rfl rfl hl.1 rfl (Nat.le_of_ble_eq_true rfl) dX8_readsWord_132 rfl rfl (fun r803 v804 H locs hp hw => ?_)
              obtain ⟨hp, hzr803⟩ := hp
              obtain ⟨hp, rfl⟩ := hp
              have hF := hF.trans (kb_some hp _)
              refine lv_if_eq (tgt := 174) hx hb dX8_readsWord_135 (by decide) (fun c805 => ?_) (fun c805 => ?_)
              · skip
                have hF := hF.trans (if_pos c805)
                exact hret _ _ _ _ _ hw dX8_readsWord_174 hF
              · skip
                have hF := hF.trans (if_neg c805)
                refine lv_aload_n hx hb dX8_readsWord_138 rfl (lv_at hl 4 rfl) ?_
                refine km_get (ci := 8) (C := RX8) (T := TX8) (N := 23) (t := 30) (i := 0) hx hb hts fi_X8_readsWord_X8 hown hK hw (by decide) (by decide) rfl rfl 14 (by decide) (hts (.fieldLink RX8 28 "WrongWordModel" "draft" "[I") ow_X8_readsWord_28) rfl dX8_readsWord_139 ?_
                refine lv_iload_n hx hb dX8_readsWord_142 rfl (lv_at hl 3 rfl) ?_
                refine lv_iload_n hx hb dX8_readsWord_143 rfl (lv_at hl 2 rfl) ?_
                have hb806 : ¬ (x665 < 0 ∨ 65 ≤ Int32.toNatClampNeg x665) := fun q => hs (hF.trans (if_pos q))
                have hF := hF.trans (if_neg hb806)
                refine km_iast (t := 37) (i := 0) (n := 65) hx hb hK hw (by decide) (by decide) (fun _ => rfl) hb806 dX8_readsWord_144 (fun H locs hw => ?_)
                obtain ⟨v807, ev807⟩ : ∃ z, z = up3 v801 37 0 (Int32.toNatClampNeg x665) r667 := ⟨_, rfl⟩
                rw [← ev807] at hw
                have hF := hF.trans (kb_some (congrArg some ev807.symm) _)
                refine lv_aload_n hx hb dX8_readsWord_145 rfl (lv_at hl 4 rfl) ?_
                refine km_get (ci := 8) (C := RX8) (T := TX8) (N := 23) (t := 30) (i := 0) hx hb hts fi_X8_readsWord_X8 hown hK hw (by decide) (by decide) rfl rfl 14 (by decide) (hts (.fieldLink RX8 28 "WrongWordModel" "draft" "[I") ow_X8_readsWord_28) rfl dX8_readsWord_146 ?_
                refine lv_iload_n hx hb dX8_readsWord_149 rfl (lv_at hl 3 rfl) ?_
                refine lv_iconst (v := 1) hx hb dX8_readsWord_150 (by decide) ?_
                refine lv_iadd hx hb dX8_readsWord_151 ?_
                refine lv_iload_n hx hb dX8_readsWord_152 rfl (lv_at hl 1 rfl) ?_
                have hb808 : ¬ (x665 + 1 < 0 ∨ 65 ≤ Int32.toNatClampNeg (x665 + 1)) := fun q => hs (hF.trans (if_pos q))
                have hF := hF.trans (if_neg hb808)
                refine km_iast (t := 37) (i := 0) (n := 65) hx hb hK hw (by decide) (by decide) (fun _ => rfl) hb808 dX8_readsWord_153 (fun H locs hw => ?_)
                obtain ⟨v809, ev809⟩ : ∃ z, z = up3 v807 37 0 (Int32.toNatClampNeg (x665 + 1)) r670 := ⟨_, rfl⟩
                rw [← ev809] at hw
                have hF := hF.trans (kb_some (congrArg some ev809.symm) _)
                refine lv_aload_n hx hb dX8_readsWord_154 rfl (lv_at hl 4 rfl) ?_
                refine km_get (ci := 8) (C := RX8) (T := TX8) (N := 23) (t := 30) (i := 0) hx hb hts fi_X8_readsWord_X8 hown hK hw (by decide) (by decide) rfl rfl 14 (by decide) (hts (.fieldLink RX8 28 "WrongWordModel" "draft" "[I") ow_X8_readsWord_28) rfl dX8_readsWord_155 ?_
                refine lv_iload_n hx hb dX8_readsWord_158 rfl (lv_at hl 3 rfl) ?_
                refine lv_iconst (v := 2) hx hb dX8_readsWord_159 (by decide) ?_
                refine lv_iadd hx hb dX8_readsWord_160 ?_
                refine lv_iload hx hb dX8_readsWord_161 (lv_at hl 0 rfl) ?_
                have hb810 : ¬ (x665 + 2 < 0 ∨ 65 ≤ Int32.toNatClampNeg (x665 + 2)) := fun q => hs (hF.trans (if_pos q))
                have hF := hF.trans (if_neg hb810)
                refine km_iast (t := 37) (i := 0) (n := 65) hx hb hK hw (by decide) (by decide) (fun _ => rfl) hb810 dX8_readsWord_163 (fun H locs hw => ?_)
                obtain ⟨v811, ev811⟩ : ∃ z, z = up3 v809 37 0 (Int32.toNatClampNeg (x665 + 2)) (r782 - 97) := ⟨_, rfl⟩
                rw [← ev811] at hw
                have hF := hF.trans (kb_some (congrArg some ev811.symm) _)
                refine lv_aload_n hx hb dX8_readsWord_164 rfl (lv_at hl 4 rfl) ?_
                refine km_get (ci := 8) (C := RX8) (T := TX8) (N := 23) (t := 30) (i := 0) hx hb hts fi_X8_readsWord_X8 hown hK hw (by decide) (by decide) rfl rfl 14 (by decide) (hts (.fieldLink RX8 28 "WrongWordModel" "draft" "[I") ow_X8_readsWord_28) rfl dX8_readsWord_165 ?_
                refine lv_iconst (v := 3) hx hb dX8_readsWord_168 (by decide) ?_
                refine lv_dup2_11 hx hb dX8_readsWord_169 rfl rfl ?_
                refine km_iald (t := 37) (i := 0) hx hb hK hw (by decide) (by decide) rfl (by unfold vp_in; decide) dX8_readsWord_170 ?_
                refine lv_iconst (v := 1) hx hb dX8_readsWord_171 (by decide) ?_
                refine lv_iadd hx hb dX8_readsWord_172 ?_
                refine km_iast (t := 37) (i := 0) (n := 65) hx hb hK hw (by decide) (by decide) (fun _ => rfl) (by unfold vp_in; decide) dX8_readsWord_173 (fun H locs hw => ?_)
                obtain ⟨v812, ev812⟩ : ∃ z, z = up3 v811 37 0 (Int32.toNatClampNeg 3) ((v811 37 0 (Int32.toNatClampNeg 3)) + 1) := ⟨_, rfl⟩
                rw [← ev812] at hw
                have hF := hF.trans (kb_some (congrArg some ev812.symm) _)
                exact hret _ _ _ _ _ hw dX8_readsWord_174 hF
        · skip
          have hF := hF.trans (if_neg c744)
          refine lv_aload_n hx hb dX8_readsWord_74 rfl (lv_at hl 3 rfl) ?_
          refine lv_iconst (v := 0) hx hb dX8_readsWord_75 (by decide) ?_
          refine lv_iconst (v := 1) hx hb dX8_readsWord_76 (by decide) ?_
          have hs813 : g_X8_takes v671 0 1 ≠ none := fun q => hs (hF.trans (kb2_n q _))
          refine km_cI (As := [.int 0, .int 1]) (rest := []) (n := 2) (q := (RX8, TX8, 23)) (ci := 8) (t := 30) (i := 0) ⟨hx, hb, hml, hown, hts⟩ (d_X8_takes l E Z v671 0 1 hs813) gX8_readsWord_X8_takes rfl hV_X8_takes ⟨Nat.le_of_ble_eq_true rfl, Nat.le_of_ble_eq_true rfl⟩ hK hw (by decide) (by decide) rfl rfl rfl hl.1 rfl (Nat.le_of_ble_eq_true rfl) dX8_readsWord_77 rfl rfl (fun r814 v815 H locs hp hw => ?_)
          have hF := hF.trans (kb2_some hp _)
          refine lv_pop hx hb dX8_readsWord_80 rfl ?_
          refine lv_aload_n hx hb dX8_readsWord_81 rfl (lv_at hl 3 rfl) ?_
          refine lv_aload_n hx hb dX8_readsWord_82 rfl (lv_at hl 3 rfl) ?_
          refine lv_iload_n hx hb dX8_readsWord_83 rfl (lv_at hl 1 rfl) ?_
          refine lv_iload_n hx hb dX8_readsWord_84 rfl (lv_at hl 0 rfl) ?_
          refine lv_aload_n hx hb dX8_readsWord_85 rfl (lv_at hl 3 rfl) ?_
          refine km_get (ci := 8) (C := RX8) (T := TX8) (N := 23) (t := 30) (i := 0) hx hb hts fi_X8_readsWord_X8 hown hK hw (by decide) (by decide) rfl rfl 12 (by decide) (hts (.fieldLink RX8 95 "WrongWordModel" "value" "I") ow_X8_readsWord_95) rfl dX8_readsWord_86 ?_
          refine lv_bipush (v := 97) hx hb dX8_readsWord_89 (by decide) ?_
          refine lv_isub hx hb dX8_readsWord_91 ?_
          have hs816 : g_X8_isTold v815 r667 r670 ((v815 30 0 12) - 97) ≠ none := fun q => hs (hF.trans (kb_n q _))
          refine km_cI (As := [.int r667, .int r670, .int ((v815 30 0 12) - 97)]) (rest := [.ref (Z.1 30 0)]) (n := 3) (q := (RX8, TX8, 23)) (ci := 8) (t := 30) (i := 0) ⟨hx, hb, hml, hown, hts⟩ (d_X8_isTold l E Z v815 r667 r670 ((v815 30 0 12) - 97) hs816) gX8_readsWord_X8_isTold rfl hV_X8_isTold ⟨Nat.le_of_ble_eq_true rfl, Nat.le_of_ble_eq_true rfl⟩ hK hw (by decide) (by decide) rfl rfl rfl hl.1 rfl (Nat.le_of_ble_eq_true rfl) dX8_readsWord_92 rfl rfl (fun r817 v818 H locs hp hw => ?_)
          obtain ⟨hp, hzr817⟩ := hp
          obtain ⟨hp, rfl⟩ := hp
          have hF := hF.trans (kb_some hp _)
          refine lv_if_ne (tgt := 102) hx hb dX8_readsWord_95 (by decide) (fun c819 => ?_) (fun c819 => ?_)
          · skip
            have hF := hF.trans (if_neg c819)
            refine lv_iconst (v := 0) hx hb dX8_readsWord_102 (by decide) ?_
            refine lv_iconst (v := 2) hx hb dX8_readsWord_103 (by decide) ?_
            have hs820 : g_X8_takes v815 0 2 ≠ none := fun q => hs (hF.trans (kb2_n q _))
            refine km_cI (As := [.int 0, .int 2]) (rest := []) (n := 2) (q := (RX8, TX8, 23)) (ci := 8) (t := 30) (i := 0) ⟨hx, hb, hml, hown, hts⟩ (d_X8_takes l E Z v815 0 2 hs820) gX8_readsWord_X8_takes rfl hV_X8_takes ⟨Nat.le_of_ble_eq_true rfl, Nat.le_of_ble_eq_true rfl⟩ hK hw (by decide) (by decide) rfl rfl rfl hl.1 rfl (Nat.le_of_ble_eq_true rfl) dX8_readsWord_104 rfl rfl (fun r821 v822 H locs hp hw => ?_)
            have hF := hF.trans (kb2_some hp _)
            refine lv_bipush (v := 97) hx hb dX8_readsWord_107 (by decide) ?_
            refine lv_isub hx hb dX8_readsWord_109 ?_
            refine lv_istore (lv' := [(4, .int (r821 - 97)), (3, .int r670), (2, .int r667), (1, .int x665), (0, .ref (Z.1 30 0))]) hx hb dX8_readsWord_110 hl (by decide) rfl (fun ls hl => ?_)
            refine lv_aload_n hx hb dX8_readsWord_112 rfl (lv_at hl 4 rfl) ?_
            refine lv_aload_n hx hb dX8_readsWord_113 rfl (lv_at hl 4 rfl) ?_
            refine km_get (ci := 8) (C := RX8) (T := TX8) (N := 23) (t := 30) (i := 0) hx hb hts fi_X8_readsWord_X8 hown hK hw (by decide) (by decide) rfl rfl 11 (by decide) (hts (.fieldLink RX8 98 "WrongWordModel" "token" "I") ow_X8_readsWord_98) rfl dX8_readsWord_114 ?_
            refine lv_iconst (v := 4) hx hb dX8_readsWord_117 (by decide) ?_
            refine lv_icmp_ne (tgt := 125) hx hb dX8_readsWord_118 (by decide) (fun c823 => ?_) (fun c823 => ?_)
            · skip
              have hF := hF.trans (if_neg c823)
              refine lv_iconst (v := 0) hx hb dX8_readsWord_125 (by decide) ?_
              refine lv_iconst (v := 1) hx hb dX8_readsWord_126 (by decide) ?_
              have hs824 : g_X8_takes v822 0 1 ≠ none := fun q => hs (hF.trans (kb2_n q _))
              refine km_cI (As := [.int 0, .int 1]) (rest := []) (n := 2) (q := (RX8, TX8, 23)) (ci := 8) (t := 30) (i := 0) ⟨hx, hb, hml, hown, hts⟩ (d_X8_takes l E Z v822 0 1 hs824) gX8_readsWord_X8_takes rfl hV_X8_takes ⟨Nat.le_of_ble_eq_true rfl, Nat.le_of_ble_eq_true rfl⟩ hK hw (by decide) (by decide) rfl rfl rfl hl.1 rfl (Nat.le_of_ble_eq_true rfl) dX8_readsWord_127 rfl rfl (fun r825 v826 H locs hp hw => ?_)
              have hF := hF.trans (kb2_some hp _)
              refine lv_pop hx hb dX8_readsWord_130 rfl ?_
              refine lv_aload_n hx hb dX8_readsWord_131 rfl (lv_at hl 4 rfl) ?_
              have hs827 : g_X8_isWell v826 ≠ none := fun q => hs (hF.trans (kb_n q _))
              refine km_cI (As := []) (rest := []) (n := 0) (q := (RX8, TX8, 23)) (ci := 8) (t := 30) (i := 0) ⟨hx, hb, hml, hown, hts⟩ (d_X8_isWell l E Z v826  hs827) gX8_readsWord_X8_isWell rfl hV_X8_isWell ⟨Nat.le_of_ble_eq_true rfl, Nat.le_of_ble_eq_true rfl⟩ hK hw (by decide) (by decide) rfl rfl rfl hl.1 rfl (Nat.le_of_ble_eq_true rfl) dX8_readsWord_132 rfl rfl (fun r828 v829 H locs hp hw => ?_)
              obtain ⟨hp, hzr828⟩ := hp
              obtain ⟨hp, rfl⟩ := hp
              have hF := hF.trans (kb_some hp _)
              refine lv_if_eq (tgt := 174) hx hb dX8_readsWord_135 (by decide) (fun c830 => ?_) (fun c830 => ?_)
              · skip
                have hF := hF.trans (if_pos c830)
                exact hret _ _ _ _ _ hw dX8_readsWord_174 hF
              · skip
                have hF := hF.trans (if_neg c830)
                refine lv_aload_n hx hb dX8_readsWord_138 rfl (lv_at hl 4 rfl) ?_
                refine km_get (ci := 8) (C := RX8) (T := TX8) (N := 23) (t := 30) (i := 0) hx hb hts fi_X8_readsWord_X8 hown hK hw (by decide) (by decide) rfl rfl 14 (by decide) (hts (.fieldLink RX8 28 "WrongWordModel" "draft" "[I") ow_X8_readsWord_28) rfl dX8_readsWord_139 ?_
                refine lv_iload_n hx hb dX8_readsWord_142 rfl (lv_at hl 3 rfl) ?_
                refine lv_iload_n hx hb dX8_readsWord_143 rfl (lv_at hl 2 rfl) ?_
                have hb831 : ¬ (x665 < 0 ∨ 65 ≤ Int32.toNatClampNeg x665) := fun q => hs (hF.trans (if_pos q))
                have hF := hF.trans (if_neg hb831)
                refine km_iast (t := 37) (i := 0) (n := 65) hx hb hK hw (by decide) (by decide) (fun _ => rfl) hb831 dX8_readsWord_144 (fun H locs hw => ?_)
                obtain ⟨v832, ev832⟩ : ∃ z, z = up3 v826 37 0 (Int32.toNatClampNeg x665) r667 := ⟨_, rfl⟩
                rw [← ev832] at hw
                have hF := hF.trans (kb_some (congrArg some ev832.symm) _)
                refine lv_aload_n hx hb dX8_readsWord_145 rfl (lv_at hl 4 rfl) ?_
                refine km_get (ci := 8) (C := RX8) (T := TX8) (N := 23) (t := 30) (i := 0) hx hb hts fi_X8_readsWord_X8 hown hK hw (by decide) (by decide) rfl rfl 14 (by decide) (hts (.fieldLink RX8 28 "WrongWordModel" "draft" "[I") ow_X8_readsWord_28) rfl dX8_readsWord_146 ?_
                refine lv_iload_n hx hb dX8_readsWord_149 rfl (lv_at hl 3 rfl) ?_
                refine lv_iconst (v := 1) hx hb dX8_readsWord_150 (by decide) ?_
                refine lv_iadd hx hb dX8_readsWord_151 ?_
                refine lv_iload_n hx hb dX8_readsWord_152 rfl (lv_at hl 1 rfl) ?_
                have hb833 : ¬ (x665 + 1 < 0 ∨ 65 ≤ Int32.toNatClampNeg (x665 + 1)) := fun q => hs (hF.trans (if_pos q))
                have hF := hF.trans (if_neg hb833)
                refine km_iast (t := 37) (i := 0) (n := 65) hx hb hK hw (by decide) (by decide) (fun _ => rfl) hb833 dX8_readsWord_153 (fun H locs hw => ?_)
                obtain ⟨v834, ev834⟩ : ∃ z, z = up3 v832 37 0 (Int32.toNatClampNeg (x665 + 1)) r670 := ⟨_, rfl⟩
                rw [← ev834] at hw
                have hF := hF.trans (kb_some (congrArg some ev834.symm) _)
                refine lv_aload_n hx hb dX8_readsWord_154 rfl (lv_at hl 4 rfl) ?_
                refine km_get (ci := 8) (C := RX8) (T := TX8) (N := 23) (t := 30) (i := 0) hx hb hts fi_X8_readsWord_X8 hown hK hw (by decide) (by decide) rfl rfl 14 (by decide) (hts (.fieldLink RX8 28 "WrongWordModel" "draft" "[I") ow_X8_readsWord_28) rfl dX8_readsWord_155 ?_
                refine lv_iload_n hx hb dX8_readsWord_158 rfl (lv_at hl 3 rfl) ?_
                refine lv_iconst (v := 2) hx hb dX8_readsWord_159 (by decide) ?_
                refine lv_iadd hx hb dX8_readsWord_160 ?_
                refine lv_iload hx hb dX8_readsWord_161 (lv_at hl 0 rfl) ?_
                have hb835 : ¬ (x665 + 2 < 0 ∨ 65 ≤ Int32.toNatClampNeg (x665 + 2)) := fun q => hs (hF.trans (if_pos q))
                have hF := hF.trans (if_neg hb835)
                refine km_iast (t := 37) (i := 0) (n := 65) hx hb hK hw (by decide) (by decide) (fun _ => rfl) hb835 dX8_readsWord_163 (fun H locs hw => ?_)
                obtain ⟨v836, ev836⟩ : ∃ z, z = up3 v834 37 0 (Int32.toNatClampNeg (x665 + 2)) (r821 - 97) := ⟨_, rfl⟩
                rw [← ev836] at hw
                have hF := hF.trans (kb_some (congrArg some ev836.symm) _)
                refine lv_aload_n hx hb dX8_readsWord_164 rfl (lv_at hl 4 rfl) ?_
                refine km_get (ci := 8) (C := RX8) (T := TX8) (N := 23) (t := 30) (i := 0) hx hb hts fi_X8_readsWord_X8 hown hK hw (by decide) (by decide) rfl rfl 14 (by decide) (hts (.fieldLink RX8 28 "WrongWordModel" "draft" "[I") ow_X8_readsWord_28) rfl dX8_readsWord_165 ?_
                refine lv_iconst (v := 3) hx hb dX8_readsWord_168 (by decide) ?_
                refine lv_dup2_11 hx hb dX8_readsWord_169 rfl rfl ?_
                refine km_iald (t := 37) (i := 0) hx hb hK hw (by decide) (by decide) rfl (by unfold vp_in; decide) dX8_readsWord_170 ?_
                refine lv_iconst (v := 1) hx hb dX8_readsWord_171 (by decide) ?_
                refine lv_iadd hx hb dX8_readsWord_172 ?_
                refine km_iast (t := 37) (i := 0) (n := 65) hx hb hK hw (by decide) (by decide) (fun _ => rfl) (by unfold vp_in; decide) dX8_readsWord_173 (fun H locs hw => ?_)
                obtain ⟨v837, ev837⟩ : ∃ z, z = up3 v836 37 0 (Int32.toNatClampNeg 3) ((v836 37 0 (Int32.toNatClampNeg 3)) + 1) := ⟨_, rfl⟩
                rw [← ev837] at hw
                have hF := hF.trans (kb_some (congrArg some ev837.symm) _)
                exact hret _ _ _ _ _ hw dX8_readsWord_174 hF
            · skip
              have hF := hF.trans (if_pos c823)
              refine lv_iconst (v := 1) hx hb dX8_readsWord_121 (by decide) ?_
              refine lv_goto (tgt := 126) hx hb dX8_readsWord_122 (by decide) ?_
              refine lv_iconst (v := 1) hx hb dX8_readsWord_126 (by decide) ?_
              have hs838 : g_X8_takes v822 1 1 ≠ none := fun q => hs (hF.trans (kb2_n q _))
              refine km_cI (As := [.int 1, .int 1]) (rest := []) (n := 2) (q := (RX8, TX8, 23)) (ci := 8) (t := 30) (i := 0) ⟨hx, hb, hml, hown, hts⟩ (d_X8_takes l E Z v822 1 1 hs838) gX8_readsWord_X8_takes rfl hV_X8_takes ⟨Nat.le_of_ble_eq_true rfl, Nat.le_of_ble_eq_true rfl⟩ hK hw (by decide) (by decide) rfl rfl rfl hl.1 rfl (Nat.le_of_ble_eq_true rfl) dX8_readsWord_127 rfl rfl (fun r839 v840 H locs hp hw => ?_)
              have hF := hF.trans (kb2_some hp _)
              refine lv_pop hx hb dX8_readsWord_130 rfl ?_
              refine lv_aload_n hx hb dX8_readsWord_131 rfl (lv_at hl 4 rfl) ?_
              have hs841 : g_X8_isWell v840 ≠ none := fun q => hs (hF.trans (kb_n q _))
              refine km_cI (As := []) (rest := []) (n := 0) (q := (RX8, TX8, 23)) (ci := 8) (t := 30) (i := 0) ⟨hx, hb, hml, hown, hts⟩ (d_X8_isWell l E Z v840  hs841) gX8_readsWord_X8_isWell rfl hV_X8_isWell ⟨Nat.le_of_ble_eq_true rfl, Nat.le_of_ble_eq_true rfl⟩ hK hw (by decide) (by decide) rfl rfl rfl hl.1 rfl (Nat.le_of_ble_eq_true rfl) dX8_readsWord_132 rfl rfl (fun r842 v843 H locs hp hw => ?_)
              obtain ⟨hp, hzr842⟩ := hp
              obtain ⟨hp, rfl⟩ := hp
              have hF := hF.trans (kb_some hp _)
              refine lv_if_eq (tgt := 174) hx hb dX8_readsWord_135 (by decide) (fun c844 => ?_) (fun c844 => ?_)
              · skip
                have hF := hF.trans (if_pos c844)
                exact hret _ _ _ _ _ hw dX8_readsWord_174 hF
              · skip
                have hF := hF.trans (if_neg c844)
                refine lv_aload_n hx hb dX8_readsWord_138 rfl (lv_at hl 4 rfl) ?_
                refine km_get (ci := 8) (C := RX8) (T := TX8) (N := 23) (t := 30) (i := 0) hx hb hts fi_X8_readsWord_X8 hown hK hw (by decide) (by decide) rfl rfl 14 (by decide) (hts (.fieldLink RX8 28 "WrongWordModel" "draft" "[I") ow_X8_readsWord_28) rfl dX8_readsWord_139 ?_
                refine lv_iload_n hx hb dX8_readsWord_142 rfl (lv_at hl 3 rfl) ?_
                refine lv_iload_n hx hb dX8_readsWord_143 rfl (lv_at hl 2 rfl) ?_
                have hb845 : ¬ (x665 < 0 ∨ 65 ≤ Int32.toNatClampNeg x665) := fun q => hs (hF.trans (if_pos q))
                have hF := hF.trans (if_neg hb845)
                refine km_iast (t := 37) (i := 0) (n := 65) hx hb hK hw (by decide) (by decide) (fun _ => rfl) hb845 dX8_readsWord_144 (fun H locs hw => ?_)
                obtain ⟨v846, ev846⟩ : ∃ z, z = up3 v840 37 0 (Int32.toNatClampNeg x665) r667 := ⟨_, rfl⟩
                rw [← ev846] at hw
                have hF := hF.trans (kb_some (congrArg some ev846.symm) _)
                refine lv_aload_n hx hb dX8_readsWord_145 rfl (lv_at hl 4 rfl) ?_
                refine km_get (ci := 8) (C := RX8) (T := TX8) (N := 23) (t := 30) (i := 0) hx hb hts fi_X8_readsWord_X8 hown hK hw (by decide) (by decide) rfl rfl 14 (by decide) (hts (.fieldLink RX8 28 "WrongWordModel" "draft" "[I") ow_X8_readsWord_28) rfl dX8_readsWord_146 ?_
                refine lv_iload_n hx hb dX8_readsWord_149 rfl (lv_at hl 3 rfl) ?_
                refine lv_iconst (v := 1) hx hb dX8_readsWord_150 (by decide) ?_
                refine lv_iadd hx hb dX8_readsWord_151 ?_
                refine lv_iload_n hx hb dX8_readsWord_152 rfl (lv_at hl 1 rfl) ?_
                have hb847 : ¬ (x665 + 1 < 0 ∨ 65 ≤ Int32.toNatClampNeg (x665 + 1)) := fun q => hs (hF.trans (if_pos q))
                have hF := hF.trans (if_neg hb847)
                refine km_iast (t := 37) (i := 0) (n := 65) hx hb hK hw (by decide) (by decide) (fun _ => rfl) hb847 dX8_readsWord_153 (fun H locs hw => ?_)
                obtain ⟨v848, ev848⟩ : ∃ z, z = up3 v846 37 0 (Int32.toNatClampNeg (x665 + 1)) r670 := ⟨_, rfl⟩
                rw [← ev848] at hw
                have hF := hF.trans (kb_some (congrArg some ev848.symm) _)
                refine lv_aload_n hx hb dX8_readsWord_154 rfl (lv_at hl 4 rfl) ?_
                refine km_get (ci := 8) (C := RX8) (T := TX8) (N := 23) (t := 30) (i := 0) hx hb hts fi_X8_readsWord_X8 hown hK hw (by decide) (by decide) rfl rfl 14 (by decide) (hts (.fieldLink RX8 28 "WrongWordModel" "draft" "[I") ow_X8_readsWord_28) rfl dX8_readsWord_155 ?_
                refine lv_iload_n hx hb dX8_readsWord_158 rfl (lv_at hl 3 rfl) ?_
                refine lv_iconst (v := 2) hx hb dX8_readsWord_159 (by decide) ?_
                refine lv_iadd hx hb dX8_readsWord_160 ?_
                refine lv_iload hx hb dX8_readsWord_161 (lv_at hl 0 rfl) ?_
                have hb849 : ¬ (x665 + 2 < 0 ∨ 65 ≤ Int32.toNatClampNeg (x665 + 2)) := fun q => hs (hF.trans (if_pos q))
                have hF := hF.trans (if_neg hb849)
                refine km_iast (t := 37) (i := 0) (n := 65) hx hb hK hw (by decide) (by decide) (fun _ => rfl) hb849 dX8_readsWord_163 (fun H locs hw => ?_)
                obtain ⟨v850, ev850⟩ : ∃ z, z = up3 v848 37 0 (Int32.toNatClampNeg (x665 + 2)) (r821 - 97) := ⟨_, rfl⟩
                rw [← ev850] at hw
                have hF := hF.trans (kb_some (congrArg some ev850.symm) _)
                refine lv_aload_n hx hb dX8_readsWord_164 rfl (lv_at hl 4 rfl) ?_
                refine km_get (ci := 8) (C := RX8) (T := TX8) (N := 23) (t := 30) (i := 0) hx hb hts fi_X8_readsWord_X8 hown hK hw (by decide) (by decide) rfl rfl 14 (by decide) (hts (.fieldLink RX8 28 "WrongWordModel" "draft" "[I") ow_X8_readsWord_28) rfl dX8_readsWord_165 ?_
                refine lv_iconst (v := 3) hx hb dX8_readsWord_168 (by decide) ?_
                refine lv_dup2_11 hx hb dX8_readsWord_169 rfl rfl ?_
                refine km_iald (t := 37) (i := 0) hx hb hK hw (by decide) (by decide) rfl (by unfold vp_in; decide) dX8_readsWord_170 ?_
                refine lv_iconst (v := 1) hx hb dX8_readsWord_171 (by decide) ?_
                refine lv_iadd hx hb dX8_readsWord_172 ?_
                refine km_iast (t := 37) (i := 0) (n := 65) hx hb hK hw (by decide) (by decide) (fun _ => rfl) (by unfold vp_in; decide) dX8_readsWord_173 (fun H locs hw => ?_)
                obtain ⟨v851, ev851⟩ : ∃ z, z = up3 v850 37 0 (Int32.toNatClampNeg 3) ((v850 37 0 (Int32.toNatClampNeg 3)) + 1) := ⟨_, rfl⟩
                rw [← ev851] at hw
                have hF := hF.trans (kb_some (congrArg some ev851.symm) _)
                exact hret _ _ _ _ _ hw dX8_readsWord_174 hF
          · skip
            have hF := hF.trans (if_pos c819)
            refine lv_iconst (v := 1) hx hb dX8_readsWord_98 (by decide) ?_
            refine lv_goto (tgt := 103) hx hb dX8_readsWord_99 (by decide) ?_
            refine lv_iconst (v := 2) hx hb dX8_readsWord_103 (by decide) ?_
            have hs852 : g_X8_takes v815 1 2 ≠ none := fun q => hs (hF.trans (kb2_n q _))
            refine km_cI (As := [.int 1, .int 2]) (rest := []) (n := 2) (q := (RX8, TX8, 23)) (ci := 8) (t := 30) (i := 0) ⟨hx, hb, hml, hown, hts⟩ (d_X8_takes l E Z v815 1 2 hs852) gX8_readsWord_X8_takes rfl hV_X8_takes ⟨Nat.le_of_ble_eq_true rfl, Nat.le_of_ble_eq_true rfl⟩ hK hw (by decide) (by decide) rfl rfl rfl hl.1 rfl (Nat.le_of_ble_eq_true rfl) dX8_readsWord_104 rfl rfl (fun r853 v854 H locs hp hw => ?_)
            have hF := hF.trans (kb2_some hp _)
            refine lv_bipush (v := 97) hx hb dX8_readsWord_107 (by decide) ?_
            refine lv_isub hx hb dX8_readsWord_109 ?_
            refine lv_istore (lv' := [(4, .int (r853 - 97)), (3, .int r670), (2, .int r667), (1, .int x665), (0, .ref (Z.1 30 0))]) hx hb dX8_readsWord_110 hl (by decide) rfl (fun ls hl => ?_)
            refine lv_aload_n hx hb dX8_readsWord_112 rfl (lv_at hl 4 rfl) ?_
            refine lv_aload_n hx hb dX8_readsWord_113 rfl (lv_at hl 4 rfl) ?_
            refine km_get (ci := 8) (C := RX8) (T := TX8) (N := 23) (t := 30) (i := 0) hx hb hts fi_X8_readsWord_X8 hown hK hw (by decide) (by decide) rfl rfl 11 (by decide) (hts (.fieldLink RX8 98 "WrongWordModel" "token" "I") ow_X8_readsWord_98) rfl dX8_readsWord_114 ?_
            refine lv_iconst (v := 4) hx hb dX8_readsWord_117 (by decide) ?_
            refine lv_icmp_ne (tgt := 125) hx hb dX8_readsWord_118 (by decide) (fun c855 => ?_) (fun c855 => ?_)
            · skip
              have hF := hF.trans (if_neg c855)
              refine lv_iconst (v := 0) hx hb dX8_readsWord_125 (by decide) ?_
              refine lv_iconst (v := 1) hx hb dX8_readsWord_126 (by decide) ?_
              have hs856 : g_X8_takes v854 0 1 ≠ none := fun q => hs (hF.trans (kb2_n q _))
              refine km_cI (As := [.int 0, .int 1]) (rest := []) (n := 2) (q := (RX8, TX8, 23)) (ci := 8) (t := 30) (i := 0) ⟨hx, hb, hml, hown, hts⟩ (d_X8_takes l E Z v854 0 1 hs856) gX8_readsWord_X8_takes rfl hV_X8_takes ⟨Nat.le_of_ble_eq_true rfl, Nat.le_of_ble_eq_true rfl⟩ hK hw (by decide) (by decide) rfl rfl rfl hl.1 rfl (Nat.le_of_ble_eq_true rfl) dX8_readsWord_127 rfl rfl (fun r857 v858 H locs hp hw => ?_)
              have hF := hF.trans (kb2_some hp _)
              refine lv_pop hx hb dX8_readsWord_130 rfl ?_
              refine lv_aload_n hx hb dX8_readsWord_131 rfl (lv_at hl 4 rfl) ?_
              have hs859 : g_X8_isWell v858 ≠ none := fun q => hs (hF.trans (kb_n q _))
              refine km_cI (As := []) (rest := []) (n := 0) (q := (RX8, TX8, 23)) (ci := 8) (t := 30) (i := 0) ⟨hx, hb, hml, hown, hts⟩ (d_X8_isWell l E Z v858  hs859) gX8_readsWord_X8_isWell rfl hV_X8_isWell ⟨Nat.le_of_ble_eq_true rfl, Nat.le_of_ble_eq_true rfl⟩ hK hw (by decide) (by decide) rfl rfl rfl hl.1 rfl (Nat.le_of_ble_eq_true rfl) dX8_readsWord_132 rfl rfl (fun r860 v861 H locs hp hw => ?_)
              obtain ⟨hp, hzr860⟩ := hp
              obtain ⟨hp, rfl⟩ := hp
              have hF := hF.trans (kb_some hp _)
              refine lv_if_eq (tgt := 174) hx hb dX8_readsWord_135 (by decide) (fun c862 => ?_) (fun c862 => ?_)
              · skip
                have hF := hF.trans (if_pos c862)
                exact hret _ _ _ _ _ hw dX8_readsWord_174 hF
              · skip
                have hF := hF.trans (if_neg c862)
                refine lv_aload_n hx hb dX8_readsWord_138 rfl (lv_at hl 4 rfl) ?_
                refine km_get (ci := 8) (C := RX8) (T := TX8) (N := 23) (t := 30) (i := 0) hx hb hts fi_X8_readsWord_X8 hown hK hw (by decide) (by decide) rfl rfl 14 (by decide) (hts (.fieldLink RX8 28 "WrongWordModel" "draft" "[I") ow_X8_readsWord_28) rfl dX8_readsWord_139 ?_
                refine lv_iload_n hx hb dX8_readsWord_142 rfl (lv_at hl 3 rfl) ?_
                refine lv_iload_n hx hb dX8_readsWord_143 rfl (lv_at hl 2 rfl) ?_
                have hb863 : ¬ (x665 < 0 ∨ 65 ≤ Int32.toNatClampNeg x665) := fun q => hs (hF.trans (if_pos q))
                have hF := hF.trans (if_neg hb863)
                refine km_iast (t := 37) (i := 0) (n := 65) hx hb hK hw (by decide) (by decide) (fun _ => rfl) hb863 dX8_readsWord_144 (fun H locs hw => ?_)
                obtain ⟨v864, ev864⟩ : ∃ z, z = up3 v858 37 0 (Int32.toNatClampNeg x665) r667 := ⟨_, rfl⟩
                rw [← ev864] at hw
                have hF := hF.trans (kb_some (congrArg some ev864.symm) _)
                refine lv_aload_n hx hb dX8_readsWord_145 rfl (lv_at hl 4 rfl) ?_
                refine km_get (ci := 8) (C := RX8) (T := TX8) (N := 23) (t := 30) (i := 0) hx hb hts fi_X8_readsWord_X8 hown hK hw (by decide) (by decide) rfl rfl 14 (by decide) (hts (.fieldLink RX8 28 "WrongWordModel" "draft" "[I") ow_X8_readsWord_28) rfl dX8_readsWord_146 ?_
                refine lv_iload_n hx hb dX8_readsWord_149 rfl (lv_at hl 3 rfl) ?_
                refine lv_iconst (v := 1) hx hb dX8_readsWord_150 (by decide) ?_
                refine lv_iadd hx hb dX8_readsWord_151 ?_
                refine lv_iload_n hx hb dX8_readsWord_152 rfl (lv_at hl 1 rfl) ?_
                have hb865 : ¬ (x665 + 1 < 0 ∨ 65 ≤ Int32.toNatClampNeg (x665 + 1)) := fun q => hs (hF.trans (if_pos q))
                have hF := hF.trans (if_neg hb865)
                refine km_iast (t := 37) (i := 0) (n := 65) hx hb hK hw (by decide) (by decide) (fun _ => rfl) hb865 dX8_readsWord_153 (fun H locs hw => ?_)
                obtain ⟨v866, ev866⟩ : ∃ z, z = up3 v864 37 0 (Int32.toNatClampNeg (x665 + 1)) r670 := ⟨_, rfl⟩
                rw [← ev866] at hw
                have hF := hF.trans (kb_some (congrArg some ev866.symm) _)
                refine lv_aload_n hx hb dX8_readsWord_154 rfl (lv_at hl 4 rfl) ?_
                refine km_get (ci := 8) (C := RX8) (T := TX8) (N := 23) (t := 30) (i := 0) hx hb hts fi_X8_readsWord_X8 hown hK hw (by decide) (by decide) rfl rfl 14 (by decide) (hts (.fieldLink RX8 28 "WrongWordModel" "draft" "[I") ow_X8_readsWord_28) rfl dX8_readsWord_155 ?_
                refine lv_iload_n hx hb dX8_readsWord_158 rfl (lv_at hl 3 rfl) ?_
                refine lv_iconst (v := 2) hx hb dX8_readsWord_159 (by decide) ?_
                refine lv_iadd hx hb dX8_readsWord_160 ?_
                refine lv_iload hx hb dX8_readsWord_161 (lv_at hl 0 rfl) ?_
                have hb867 : ¬ (x665 + 2 < 0 ∨ 65 ≤ Int32.toNatClampNeg (x665 + 2)) := fun q => hs (hF.trans (if_pos q))
                have hF := hF.trans (if_neg hb867)
                refine km_iast (t := 37) (i := 0) (n := 65) hx hb hK hw (by decide) (by decide) (fun _ => rfl) hb867 dX8_readsWord_163 (fun H locs hw => ?_)
                obtain ⟨v868, ev868⟩ : ∃ z, z = up3 v866 37 0 (Int32.toNatClampNeg (x665 + 2)) (r853 - 97) := ⟨_, rfl⟩
                rw [← ev868] at hw
                have hF := hF.trans (kb_some (congrArg some ev868.symm) _)
                refine lv_aload_n hx hb dX8_readsWord_164 rfl (lv_at hl 4 rfl) ?_
                refine km_get (ci := 8) (C := RX8) (T := TX8) (N := 23) (t := 30) (i := 0) hx hb hts fi_X8_readsWord_X8 hown hK hw (by decide) (by decide) rfl rfl 14 (by decide) (hts (.fieldLink RX8 28 "WrongWordModel" "draft" "[I") ow_X8_readsWord_28) rfl dX8_readsWord_165 ?_
                refine lv_iconst (v := 3) hx hb dX8_readsWord_168 (by decide) ?_
                refine lv_dup2_11 hx hb dX8_readsWord_169 rfl rfl ?_
                refine km_iald (t := 37) (i := 0) hx hb hK hw (by decide) (by decide) rfl (by unfold vp_in; decide) dX8_readsWord_170 ?_
                refine lv_iconst (v := 1) hx hb dX8_readsWord_171 (by decide) ?_
                refine lv_iadd hx hb dX8_readsWord_172 ?_
                refine km_iast (t := 37) (i := 0) (n := 65) hx hb hK hw (by decide) (by decide) (fun _ => rfl) (by unfold vp_in; decide) dX8_readsWord_173 (fun H locs hw => ?_)
                obtain ⟨v869, ev869⟩ : ∃ z, z = up3 v868 37 0 (Int32.toNatClampNeg 3) ((v868 37 0 (Int32.toNatClampNeg 3)) + 1) := ⟨_, rfl⟩
                rw [← ev869] at hw
                have hF := hF.trans (kb_some (congrArg some ev869.symm) _)
                exact hret _ _ _ _ _ hw dX8_readsWord_174 hF
            · skip
              have hF := hF.trans (if_pos c855)
              refine lv_iconst (v := 1) hx hb dX8_readsWord_121 (by decide) ?_
              refine lv_goto (tgt := 126) hx hb dX8_readsWord_122 (by decide) ?_
              refine lv_iconst (v := 1) hx hb dX8_readsWord_126 (by decide) ?_
              have hs870 : g_X8_takes v854 1 1 ≠ none := fun q => hs (hF.trans (kb2_n q _))
              refine km_cI (As := [.int 1, .int 1]) (rest := []) (n := 2) (q := (RX8, TX8, 23)) (ci := 8) (t := 30) (i := 0) ⟨hx, hb, hml, hown, hts⟩ (d_X8_takes l E Z v854 1 1 hs870) gX8_readsWord_X8_takes rfl hV_X8_takes ⟨Nat.le_of_ble_eq_true rfl, Nat.le_of_ble_eq_true rfl⟩ hK hw (by decide) (by decide) rfl rfl rfl hl.1 rfl (Nat.le_of_ble_eq_true rfl) dX8_readsWord_127 rfl rfl (fun r871 v872 H locs hp hw => ?_)
              have hF := hF.trans (kb2_some hp _)
              refine lv_pop hx hb dX8_readsWord_130 rfl ?_
              refine lv_aload_n hx hb dX8_readsWord_131 rfl (lv_at hl 4 rfl) ?_
              have hs873 : g_X8_isWell v872 ≠ none := fun q => hs (hF.trans (kb_n q _))
              refine km_cI (As := []) (rest := []) (n := 0) (q := (RX8, TX8, 23)) (ci := 8) (t := 30) (i := 0) ⟨hx, hb, hml, hown, hts⟩ (d_X8_isWell l E Z v872  hs873) gX8_readsWord_X8_isWell rfl hV_X8_isWell ⟨Nat.le_of_ble_eq_true rfl, Nat.le_of_ble_eq_true rfl⟩ hK hw (by decide) (by decide) rfl rfl rfl hl.1 rfl (Nat.le_of_ble_eq_true rfl) dX8_readsWord_132 rfl rfl (fun r874 v875 H locs hp hw => ?_)
              obtain ⟨hp, hzr874⟩ := hp
              obtain ⟨hp, rfl⟩ := hp
              have hF := hF.trans (kb_some hp _)
              refine lv_if_eq (tgt := 174) hx hb dX8_readsWord_135 (by decide) (fun c876 => ?_) (fun c876 => ?_)
              · skip
                have hF := hF.trans (if_pos c876)
                exact hret _ _ _ _ _ hw dX8_readsWord_174 hF
              · skip
                have hF := hF.trans (if_neg c876)
                refine lv_aload_n hx hb dX8_readsWord_138 rfl (lv_at hl 4 rfl) ?_
                refine km_get (ci := 8) (C := RX8) (T := TX8) (N := 23) (t := 30) (i := 0) hx hb hts fi_X8_readsWord_X8 hown hK hw (by decide) (by decide) rfl rfl 14 (by decide) (hts (.fieldLink RX8 28 "WrongWordModel" "draft" "[I") ow_X8_readsWord_28) rfl dX8_readsWord_139 ?_
                refine lv_iload_n hx hb dX8_readsWord_142 rfl (lv_at hl 3 rfl) ?_
                refine lv_iload_n hx hb dX8_readsWord_143 rfl (lv_at hl 2 rfl) ?_
                have hb877 : ¬ (x665 < 0 ∨ 65 ≤ Int32.toNatClampNeg x665) := fun q => hs (hF.trans (if_pos q))
                have hF := hF.trans (if_neg hb877)
                refine km_iast (t := 37) (i := 0) (n := 65) hx hb hK hw (by decide) (by decide) (fun _ => rfl) hb877 dX8_readsWord_144 (fun H locs hw => ?_)
                obtain ⟨v878, ev878⟩ : ∃ z, z = up3 v872 37 0 (Int32.toNatClampNeg x665) r667 := ⟨_, rfl⟩
                rw [← ev878] at hw
                have hF := hF.trans (kb_some (congrArg some ev878.symm) _)
                refine lv_aload_n hx hb dX8_readsWord_145 rfl (lv_at hl 4 rfl) ?_
                refine km_get (ci := 8) (C := RX8) (T := TX8) (N := 23) (t := 30) (i := 0) hx hb hts fi_X8_readsWord_X8 hown hK hw (by decide) (by decide) rfl rfl 14 (by decide) (hts (.fieldLink RX8 28 "WrongWordModel" "draft" "[I") ow_X8_readsWord_28) rfl dX8_readsWord_146 ?_
                refine lv_iload_n hx hb dX8_readsWord_149 rfl (lv_at hl 3 rfl) ?_
                refine lv_iconst (v := 1) hx hb dX8_readsWord_150 (by decide) ?_
                refine lv_iadd hx hb dX8_readsWord_151 ?_
                refine lv_iload_n hx hb dX8_readsWord_152 rfl (lv_at hl 1 rfl) ?_
                have hb879 : ¬ (x665 + 1 < 0 ∨ 65 ≤ Int32.toNatClampNeg (x665 + 1)) := fun q => hs (hF.trans (if_pos q))
                have hF := hF.trans (if_neg hb879)
                refine km_iast (t := 37) (i := 0) (n := 65) hx hb hK hw (by decide) (by decide) (fun _ => rfl) hb879 dX8_readsWord_153 (fun H locs hw => ?_)
                obtain ⟨v880, ev880⟩ : ∃ z, z = up3 v878 37 0 (Int32.toNatClampNeg (x665 + 1)) r670 := ⟨_, rfl⟩
                rw [← ev880] at hw
                have hF := hF.trans (kb_some (congrArg some ev880.symm) _)
                refine lv_aload_n hx hb dX8_readsWord_154 rfl (lv_at hl 4 rfl) ?_
                refine km_get (ci := 8) (C := RX8) (T := TX8) (N := 23) (t := 30) (i := 0) hx hb hts fi_X8_readsWord_X8 hown hK hw (by decide) (by decide) rfl rfl 14 (by decide) (hts (.fieldLink RX8 28 "WrongWordModel" "draft" "[I") ow_X8_readsWord_28) rfl dX8_readsWord_155 ?_
                refine lv_iload_n hx hb dX8_readsWord_158 rfl (lv_at hl 3 rfl) ?_
                refine lv_iconst (v := 2) hx hb dX8_readsWord_159 (by decide) ?_
                refine lv_iadd hx hb dX8_readsWord_160 ?_
                refine lv_iload hx hb dX8_readsWord_161 (lv_at hl 0 rfl) ?_
                have hb881 : ¬ (x665 + 2 < 0 ∨ 65 ≤ Int32.toNatClampNeg (x665 + 2)) := fun q => hs (hF.trans (if_pos q))
                have hF := hF.trans (if_neg hb881)
                refine km_iast (t := 37) (i := 0) (n := 65) hx hb hK hw (by decide) (by decide) (fun _ => rfl) hb881 dX8_readsWord_163 (fun H locs hw => ?_)
                obtain ⟨v882, ev882⟩ : ∃ z, z = up3 v880 37 0 (Int32.toNatClampNeg (x665 + 2)) (r853 - 97) := ⟨_, rfl⟩
                rw [← ev882] at hw
                have hF := hF.trans (kb_some (congrArg some ev882.symm) _)
                refine lv_aload_n hx hb dX8_readsWord_164 rfl (lv_at hl 4 rfl) ?_
                refine km_get (ci := 8) (C := RX8) (T := TX8) (N := 23) (t := 30) (i := 0) hx hb hts fi_X8_readsWord_X8 hown hK hw (by decide) (by decide) rfl rfl 14 (by decide) (hts (.fieldLink RX8 28 "WrongWordModel" "draft" "[I") ow_X8_readsWord_28) rfl dX8_readsWord_165 ?_
                refine lv_iconst (v := 3) hx hb dX8_readsWord_168 (by decide) ?_
                refine lv_dup2_11 hx hb dX8_readsWord_169 rfl rfl ?_
                refine km_iald (t := 37) (i := 0) hx hb hK hw (by decide) (by decide) rfl (by unfold vp_in; decide) dX8_readsWord_170 ?_
                refine lv_iconst (v := 1) hx hb dX8_readsWord_171 (by decide) ?_
                refine lv_iadd hx hb dX8_readsWord_172 ?_
                refine km_iast (t := 37) (i := 0) (n := 65) hx hb hK hw (by decide) (by decide) (fun _ => rfl) (by unfold vp_in; decide) dX8_readsWord_173 (fun H locs hw => ?_)
                obtain ⟨v883, ev883⟩ : ∃ z, z = up3 v882 37 0 (Int32.toNatClampNeg 3) ((v882 37 0 (Int32.toNatClampNeg 3)) + 1) := ⟨_, rfl⟩
                rw [← ev883] at hw
                have hF := hF.trans (kb_some (congrArg some ev883.symm) _)
                exact hret _ _ _ _ _ hw dX8_readsWord_174 hF
