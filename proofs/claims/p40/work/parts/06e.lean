abbrev rmX7_commonDivisor : Room := { frames := 0, cells := 0, slots := 0, locals := 0 }
def b_X7_commonDivisor_L2  (rec2 : Int32 → Option (Int32)) (v : Mm) (a0 : Int32) (a1 : Int32) (x2_2 : Int32) : Option (Int32) := if x2_2 ≤ 1 then (some 1) else (if x2_2 = 0 then none else (if a0 - a0 / x2_2 * x2_2 = 0 then (if x2_2 = 0 then none else (if a1 - a1 / x2_2 * x2_2 = 0 then (some x2_2) else (rec2 (x2_2 + (-1))))) else (rec2 (x2_2 + (-1)))))
def g_X7_commonDivisor_L2  (v : Mm) (a0 : Int32) (a1 : Int32) : Nat → Int32 → Option (Int32)
  | 0 => fun _ => none
  | n + 1 => b_X7_commonDivisor_L2  (g_X7_commonDivisor_L2  v a0 a1 n) v a0 a1
def g_X7_commonDivisor (v : Mm) (a0 : Int32) (a1 : Int32) : Option (Int32) := g_X7_commonDivisor_L2  v a0 a1 2000 a1
set_option maxHeartbeats 4000000 in
set_option maxRecDepth 100000 in
theorem d_X7_commonDivisor (l : Launch) (E : kq_T) (Z : km_Z) (v : Mm) (a0 : Int32) (a1 : Int32) (hs : g_X7_commonDivisor v a0 a1 ≠ none) : km_I l E Z cntX yX7_commonDivisor wsX7_commonDivisor rmX7_commonDivisor [.int a0, .int a1] v (fun r v1 => g_X7_commonDivisor v a0 a1 = some r ∧ v = v1) := by
  refine km_goI (cc := cX7_commonDivisor) (maxL := 3) (by decide) rfl (Nat.le_of_ble_eq_true rfl) rfl rfl rfl ?_
  intro p e s m below meth c A ls Q C hK hw hl hret
  obtain ⟨hx, hb, hml, hown, hts, -, -, -⟩ := C
  have hown : s.vm.findClass RX7 = some m.cls := hown
  have hl : lv_has ls 3 [(0, .int a0), (1, .int a1)] := hl
  have hF := g_X7_commonDivisor.eq_1 v a0 a1
  have loop2 : ∀ (n2 : Nat) (x2_2 : Int32) (H : Heap) (locs : List Loc) (ls : Array Slot), g_X7_commonDivisor v a0 a1 = g_X7_commonDivisor_L2  v a0 a1 n2 x2_2 → km_w E A s.heap [] Z cntX v H locs → lv_has ls 3 [(0, .int a0), (1, .int a1), (2, .int x2_2)] → W p l e rmX7_commonDivisor s m [.int a0, .int a1].toArray below meth c H locs 0 0 Q (F0 m 2 ls []) := by
    intro n2
    induction n2 with
    | zero => intro x2_2 H locs ls hF hw hl; exact absurd (show g_X7_commonDivisor v a0 a1 = none from hF) hs
    | succ n2 ih2 =>
      intro x2_2 H locs ls hF hw hl
      have hF := hF.trans (b_X7_commonDivisor_L2.eq_1  (g_X7_commonDivisor_L2  v a0 a1 n2) v a0 a1 x2_2)
      refine lv_iload_n hx hb dX7_commonDivisor_2 rfl (lv_at hl 2 rfl) ?_
      refine lv_iconst (v := 1) hx hb dX7_commonDivisor_3 (by decide) ?_
      refine lv_icmp_le (tgt := 27) hx hb dX7_commonDivisor_4 (by decide) (fun c1 => ?_) (fun c1 => ?_)
      · skip
        have hF := hF.trans (if_pos c1)
        refine lv_iconst (v := 1) hx hb dX7_commonDivisor_27 (by decide) ?_
        exact hret _ _ _ _ _ _ hw dX7_commonDivisor_28 ⟨hF, rfl⟩
      · skip
        have hF := hF.trans (if_neg c1)
        refine lv_iload_n hx hb dX7_commonDivisor_7 rfl (lv_at hl 0 rfl) ?_
        refine lv_iload_n hx hb dX7_commonDivisor_8 rfl (lv_at hl 2 rfl) ?_
        have hb2 : ¬ x2_2 = 0 := fun q => hs (hF.trans (if_pos q))
        have hF := hF.trans (if_neg hb2)
        refine lv_irem hx hb dX7_commonDivisor_9 hb2 ?_
        refine lv_if_ne (tgt := 21) hx hb dX7_commonDivisor_10 (by decide) (fun c3 => ?_) (fun c3 => ?_)
        · skip
          have hF := hF.trans (if_neg c3)
          refine lv_iinc (v := x2_2 + (-1)) (lv' := [(2, .int (x2_2 + (-1))), (0, .int a0), (1, .int a1)]) hx hb dX7_commonDivisor_21 hl (k := 2) rfl rfl (by decide) rfl (fun ls hl => ?_)
          refine lv_goto (tgt := 2) hx hb dX7_commonDivisor_24 (by decide) ?_
          have hl := lv_sub (l' := [(0, .int a0), (1, .int a1), (2, .int (x2_2 + (-1)))]) hl [1, 2, 0] rfl
          exact ih2 (x2_2 + (-1)) _ _ _ hF hw hl
        · skip
          have hF := hF.trans (if_pos c3)
          refine lv_iload_n hx hb dX7_commonDivisor_13 rfl (lv_at hl 1 rfl) ?_
          refine lv_iload_n hx hb dX7_commonDivisor_14 rfl (lv_at hl 2 rfl) ?_
          have hb4 : ¬ x2_2 = 0 := fun q => hs (hF.trans (if_pos q))
          have hF := hF.trans (if_neg hb4)
          refine lv_irem hx hb dX7_commonDivisor_15 hb4 ?_
          refine lv_if_ne (tgt := 21) hx hb dX7_commonDivisor_16 (by decide) (fun c5 => ?_) (fun c5 => ?_)
          · skip
            have hF := hF.trans (if_neg c5)
            refine lv_iinc (v := x2_2 + (-1)) (lv' := [(2, .int (x2_2 + (-1))), (0, .int a0), (1, .int a1)]) hx hb dX7_commonDivisor_21 hl (k := 2) rfl rfl (by decide) rfl (fun ls hl => ?_)
            refine lv_goto (tgt := 2) hx hb dX7_commonDivisor_24 (by decide) ?_
            have hl := lv_sub (l' := [(0, .int a0), (1, .int a1), (2, .int (x2_2 + (-1)))]) hl [1, 2, 0] rfl
            exact ih2 (x2_2 + (-1)) _ _ _ hF hw hl
          · skip
            have hF := hF.trans (if_pos c5)
            refine lv_iload_n hx hb dX7_commonDivisor_19 rfl (lv_at hl 2 rfl) ?_
            exact hret _ _ _ _ _ _ hw dX7_commonDivisor_20 ⟨hF, rfl⟩
  refine lv_iload_n hx hb dX7_commonDivisor_0 rfl (lv_at hl 1 rfl) ?_
  refine lv_istore_n (lv' := [(2, .int a1), (0, .int a0), (1, .int a1)]) hx hb dX7_commonDivisor_1 rfl hl (by decide) rfl (fun ls hl => ?_)
  have hl := lv_sub (l' := [(0, .int a0), (1, .int a1), (2, .int a1)]) hl [1, 2, 0] rfl
  exact loop2 2000 a1 _ _ _ hF hw hl
abbrev rmX7_lowest : Room := { frames := 0, cells := 0, slots := 0, locals := 0 }
def g_X7_lowest (v : Mm) (a0 : Int32) (a1 : Int32) : Option (Int32) := if a1 ≤ 0 then (some a0) else (if a1 = 0 then none else (some (a0 / a1)))
set_option maxHeartbeats 4000000 in
set_option maxRecDepth 100000 in
theorem d_X7_lowest (l : Launch) (E : kq_T) (Z : km_Z) (v : Mm) (a0 : Int32) (a1 : Int32) (hs : g_X7_lowest v a0 a1 ≠ none) : km_I l E Z cntX yX7_lowest wsX7_lowest rmX7_lowest [.int a0, .int a1] v (fun r v1 => g_X7_lowest v a0 a1 = some r ∧ v = v1) := by
  refine km_goI (cc := cX7_lowest) (maxL := 2) (by decide) rfl (Nat.le_of_ble_eq_true rfl) rfl rfl rfl ?_
  intro p e s m below meth c A ls Q C hK hw hl hret
  obtain ⟨hx, hb, hml, hown, hts, -, -, -⟩ := C
  have hown : s.vm.findClass RX7 = some m.cls := hown
  have hl : lv_has ls 2 [(0, .int a0), (1, .int a1)] := hl
  have hF := g_X7_lowest.eq_1 v a0 a1
  refine lv_iload_n hx hb dX7_lowest_0 rfl (lv_at hl 1 rfl) ?_
  refine lv_if_le (tgt := 10) hx hb dX7_lowest_1 (by decide) (fun c1 => ?_) (fun c1 => ?_)
  · skip
    have hF := hF.trans (if_pos c1)
    refine lv_iload_n hx hb dX7_lowest_10 rfl (lv_at hl 0 rfl) ?_
    exact hret _ _ _ _ _ _ hw dX7_lowest_11 ⟨hF, rfl⟩
  · skip
    have hF := hF.trans (if_neg c1)
    refine lv_iload_n hx hb dX7_lowest_4 rfl (lv_at hl 0 rfl) ?_
    refine lv_iload_n hx hb dX7_lowest_5 rfl (lv_at hl 1 rfl) ?_
    have hb2 : ¬ a1 = 0 := fun q => hs (hF.trans (if_pos q))
    have hF := hF.trans (if_neg hb2)
    refine lv_idiv hx hb dX7_lowest_6 hb2 ?_
    refine lv_goto (tgt := 11) hx hb dX7_lowest_7 (by decide) ?_
    exact hret _ _ _ _ _ _ hw dX7_lowest_11 ⟨hF, rfl⟩
abbrev rmX7_sure : Room := { frames := 4, cells := 0, slots := 0, locals := 97 }
def g_X7_sure (v : Mm) (a1 : Int32) (a2 : Int32) (a3 : Int32) (a4 : Int32) : Option (Int32) := Option.bind (g_X7_isWord v a1) (fun r2 => if r2 = 0 then (some ((-1000001))) else (Option.bind (g_X7_isHour v a2) (fun r6 => if r6 = 0 then (some ((-1000001))) else (if a3 < 0 then (some ((-1000001))) else (if 10 < a3 then (some ((-1000001))) else (if a4 < 0 then (some ((-1000001))) else (if a4 ≤ 1 then (Option.bind (g_X3_agreeing v 0) (fun r14 => Option.bind (g_J6_bitCount_0f7a4 v r14) (fun r17 => Option.bind (g_X3_secretsCatching v 0 a1 a2) (fun r20 => Option.bind (g_J6_bitCount_0f7a4 v (r14 &&& r20)) (fun r23 => if r17 = 0 then (if a4 = 0 then (Option.bind (g_X7_commonDivisor v (((r17 - r23) * 10) + (r23 * a3)) 1) (fun r47 => Option.bind (g_X7_lowest v (((r17 - r23) * 10) + (r23 * a3)) r47) (fun r50 => some r50))) else (Option.bind (g_X7_commonDivisor v (((r17 - r23) * 10) + (r23 * a3)) 1) (fun r41 => Option.bind (g_X7_lowest v 1 r41) (fun r44 => some r44)))) else (if a4 = 0 then (Option.bind (g_X7_commonDivisor v (((r17 - r23) * 10) + (r23 * a3)) (r17 * 10)) (fun r34 => Option.bind (g_X7_lowest v (((r17 - r23) * 10) + (r23 * a3)) r34) (fun r37 => some r37))) else (Option.bind (g_X7_commonDivisor v (((r17 - r23) * 10) + (r23 * a3)) (r17 * 10)) (fun r28 => Option.bind (g_X7_lowest v (r17 * 10) r28) (fun r31 => some r31))))))))) else (some ((-1000001))))))))))
set_option maxHeartbeats 4000000 in
set_option maxRecDepth 100000 in
theorem d_X7_sure (l : Launch) (E : kq_T) (Z : km_Z) (v : Mm) (a1 : Int32) (a2 : Int32) (a3 : Int32) (a4 : Int32) (hs : g_X7_sure v a1 a2 a3 a4 ≠ none) : km_I l E Z cntX yX7_sure wsX7_sure rmX7_sure [.ref (Z.1 0 0), .int a1, .int a2, .int a3, .int a4] v (fun r v1 => g_X7_sure v a1 a2 a3 a4 = some r ∧ v = v1) := by
  refine km_goI (cc := cX7_sure) (maxL := 10) (by decide) rfl (Nat.le_of_ble_eq_true rfl) rfl rfl rfl ?_
  intro p e s m below meth c A ls Q C hK hw hl hret
  obtain ⟨hx, hb, hml, hown, hts, -, -, -⟩ := C
  have hown : s.vm.findClass RX7 = some m.cls := hown
  have hl : lv_has ls 10 [(0, .ref (Z.1 0 0)), (1, .int a1), (2, .int a2), (3, .int a3), (4, .int a4)] := hl
  have hF := g_X7_sure.eq_1 v a1 a2 a3 a4
  refine lv_aload_n hx hb dX7_sure_0 rfl (lv_at hl 0 rfl) ?_
  refine lv_iload_n hx hb dX7_sure_1 rfl (lv_at hl 1 rfl) ?_
  have hs1 : g_X7_isWord v a1 ≠ none := fun q => hs (hF.trans (kb_n q _))
  refine km_cI (As := [.int a1]) (rest := []) (n := 1) (q := (RX7, TX7, 9)) (ci := 7) (t := 0) (i := 0) ⟨hx, hb, hml, hown, hts⟩ (d_X7_isWord l E Z v a1 hs1) gX7_sure_X7_isWord rfl hV_X7_isWord ⟨Nat.le_of_ble_eq_true rfl, Nat.le_of_ble_eq_true rfl⟩ hK hw (by decide) (by decide) rfl rfl rfl hl.1 rfl (Nat.le_of_ble_eq_true rfl) dX7_sure_2 rfl rfl (fun r2 v3 H locs hp hw => ?_)
  obtain ⟨hp, hzr2⟩ := hp
  obtain ⟨hp, rfl⟩ := hp
  have hF := hF.trans (kb_some hp _)
  refine lv_if_eq (tgt := 37) hx hb dX7_sure_5 (by decide) (fun c4 => ?_) (fun c4 => ?_)
  · skip
    have hF := hF.trans (if_pos c4)
    refine lv_ldc (v := (-1000001)) hx hb hown (hts (.constant RX7 59 (-1000001)) ow_X7_sure_59) dX7_sure_37 ?_
    exact hret _ _ _ _ _ _ hw dX7_sure_39 ⟨hF, rfl⟩
  · skip
    have hF := hF.trans (if_neg c4)
    refine lv_aload_n hx hb dX7_sure_8 rfl (lv_at hl 0 rfl) ?_
    refine lv_iload_n hx hb dX7_sure_9 rfl (lv_at hl 2 rfl) ?_
    have hs5 : g_X7_isHour v a2 ≠ none := fun q => hs (hF.trans (kb_n q _))
    refine km_cI (As := [.int a2]) (rest := []) (n := 1) (q := (RX7, TX7, 9)) (ci := 7) (t := 0) (i := 0) ⟨hx, hb, hml, hown, hts⟩ (d_X7_isHour l E Z v a2 hs5) gX7_sure_X7_isHour rfl hV_X7_isHour ⟨Nat.le_of_ble_eq_true rfl, Nat.le_of_ble_eq_true rfl⟩ hK hw (by decide) (by decide) rfl rfl rfl hl.1 rfl (Nat.le_of_ble_eq_true rfl) dX7_sure_10 rfl rfl (fun r6 v7 H locs hp hw => ?_)
    obtain ⟨hp, hzr6⟩ := hp
    obtain ⟨hp, rfl⟩ := hp
    have hF := hF.trans (kb_some hp _)
    refine lv_if_eq (tgt := 37) hx hb dX7_sure_13 (by decide) (fun c8 => ?_) (fun c8 => ?_)
    · skip
      have hF := hF.trans (if_pos c8)
      refine lv_ldc (v := (-1000001)) hx hb hown (hts (.constant RX7 59 (-1000001)) ow_X7_sure_59) dX7_sure_37 ?_
      exact hret _ _ _ _ _ _ hw dX7_sure_39 ⟨hF, rfl⟩
    · skip
      have hF := hF.trans (if_neg c8)
      refine lv_iload_n hx hb dX7_sure_16 rfl (lv_at hl 3 rfl) ?_
      refine lv_if_lt (tgt := 37) hx hb dX7_sure_17 (by decide) (fun c9 => ?_) (fun c9 => ?_)
      · skip
        have hF := hF.trans (if_pos c9)
        refine lv_ldc (v := (-1000001)) hx hb hown (hts (.constant RX7 59 (-1000001)) ow_X7_sure_59) dX7_sure_37 ?_
        exact hret _ _ _ _ _ _ hw dX7_sure_39 ⟨hF, rfl⟩
      · skip
        have hF := hF.trans (if_neg c9)
        refine lv_iload_n hx hb dX7_sure_20 rfl (lv_at hl 3 rfl) ?_
        refine lv_bipush (v := 10) hx hb dX7_sure_21 (by decide) ?_
        refine lv_icmp_gt (tgt := 37) hx hb dX7_sure_23 (by decide) (fun c10 => ?_) (fun c10 => ?_)
        · skip
          have hF := hF.trans (if_pos c10)
          refine lv_ldc (v := (-1000001)) hx hb hown (hts (.constant RX7 59 (-1000001)) ow_X7_sure_59) dX7_sure_37 ?_
          exact hret _ _ _ _ _ _ hw dX7_sure_39 ⟨hF, rfl⟩
        · skip
          have hF := hF.trans (if_neg c10)
          refine lv_iload hx hb dX7_sure_26 (lv_at hl 4 rfl) ?_
          refine lv_if_lt (tgt := 37) hx hb dX7_sure_28 (by decide) (fun c11 => ?_) (fun c11 => ?_)
          · skip
            have hF := hF.trans (if_pos c11)
            refine lv_ldc (v := (-1000001)) hx hb hown (hts (.constant RX7 59 (-1000001)) ow_X7_sure_59) dX7_sure_37 ?_
            exact hret _ _ _ _ _ _ hw dX7_sure_39 ⟨hF, rfl⟩
          · skip
            have hF := hF.trans (if_neg c11)
            refine lv_iload hx hb dX7_sure_31 (lv_at hl 4 rfl) ?_
            refine lv_iconst (v := 1) hx hb dX7_sure_33 (by decide) ?_
            refine lv_icmp_le (tgt := 40) hx hb dX7_sure_34 (by decide) (fun c12 => ?_) (fun c12 => ?_)
            · skip
              have hF := hF.trans (if_pos c12)
              refine lv_aload_n hx hb dX7_sure_40 rfl (lv_at hl 0 rfl) ?_
              refine km_get (ci := 7) (C := RX7) (T := TX7) (N := 9) (t := 0) (i := 0) hx hb hts fi_X7_sure_X7 hown hK hw (by decide) (by decide) rfl rfl 2 (by decide) (hts (.fieldLink RX7 25 "WrongWord" "gate" "LWrongWord$Gate;") ow_X7_sure_25) rfl dX7_sure_41 ?_
              have hs13 : g_X3_agreeing v 0 ≠ none := fun q => hs (hF.trans (kb_n q _))
              refine km_cSJ (As := [.ref (Z.1 6 0)]) (rest := []) (n := 1) ⟨hx, hb, hml, hown, hts⟩ (d_X3_agreeing l E Z v 0 (by decide) hs13) gX7_sure_X3_agreeing rfl hS_X3_agreeing ⟨Nat.le_of_ble_eq_true rfl, Nat.le_of_ble_eq_true rfl⟩ hK hw rfl hl.1 rfl (Nat.le_of_ble_eq_true rfl) dX7_sure_44 rfl rfl (fun r14 v15 H locs hp hw => ?_)
              obtain ⟨hp, rfl⟩ := hp
              have hF := hF.trans (kb_some hp _)
              refine lv_istore (lv' := [(5, .int r14), (0, .ref (Z.1 0 0)), (1, .int a1), (2, .int a2), (3, .int a3), (4, .int a4)]) hx hb dX7_sure_47 hl (by decide) rfl (fun ls hl => ?_)
              refine lv_iload hx hb dX7_sure_49 (lv_at hl 0 rfl) ?_
              have hs16 : g_J6_bitCount_0f7a4 v r14 ≠ none := fun q => hs (hF.trans (kb_n q _))
              refine km_cSJ (As := [.int r14]) (rest := []) (n := 1) ⟨hx, hb, hml, hown, hts⟩ (d_J6_bitCount_0f7a4 l E Z v r14 hs16) gX7_sure_J6_bitCount_0f7a4 rfl hS_J6_bitCount_0f7a4 ⟨Nat.le_of_ble_eq_true rfl, Nat.le_of_ble_eq_true rfl⟩ hK hw rfl hl.1 rfl (Nat.le_of_ble_eq_true rfl) dX7_sure_51 rfl rfl (fun r17 v18 H locs hp hw => ?_)
              obtain ⟨hp, rfl⟩ := hp
              have hF := hF.trans (kb_some hp _)
              refine lv_istore (lv' := [(6, .int r17), (5, .int r14), (0, .ref (Z.1 0 0)), (1, .int a1), (2, .int a2), (3, .int a3), (4, .int a4)]) hx hb dX7_sure_54 hl (by decide) rfl (fun ls hl => ?_)
              refine lv_iload hx hb dX7_sure_56 (lv_at hl 1 rfl) ?_
              refine lv_aload_n hx hb dX7_sure_58 rfl (lv_at hl 2 rfl) ?_
              refine km_get (ci := 7) (C := RX7) (T := TX7) (N := 9) (t := 0) (i := 0) hx hb hts fi_X7_sure_X7 hown hK hw (by decide) (by decide) rfl rfl 2 (by decide) (hts (.fieldLink RX7 25 "WrongWord" "gate" "LWrongWord$Gate;") ow_X7_sure_25) rfl dX7_sure_59 ?_
              refine lv_iload_n hx hb dX7_sure_62 rfl (lv_at hl 3 rfl) ?_
              refine lv_iload_n hx hb dX7_sure_63 rfl (lv_at hl 4 rfl) ?_
              have hs19 : g_X3_secretsCatching v 0 a1 a2 ≠ none := fun q => hs (hF.trans (kb_n q _))
              refine km_cSJ (As := [.ref (Z.1 6 0), .int a1, .int a2]) (rest := [.int r14]) (n := 3) ⟨hx, hb, hml, hown, hts⟩ (d_X3_secretsCatching l E Z v 0 (by decide) a1 a2 hs19) gX7_sure_X3_secretsCatching rfl hS_X3_secretsCatching ⟨Nat.le_of_ble_eq_true rfl, Nat.le_of_ble_eq_true rfl⟩ hK hw rfl hl.1 rfl (Nat.le_of_ble_eq_true rfl) dX7_sure_64 rfl rfl (fun r20 v21 H locs hp hw => ?_)
              obtain ⟨hp, rfl⟩ := hp
              have hF := hF.trans (kb_some hp _)
              refine lv_iand hx hb dX7_sure_67 ?_
              have hs22 : g_J6_bitCount_0f7a4 v (r14 &&& r20) ≠ none := fun q => hs (hF.trans (kb_n q _))
              refine km_cSJ (As := [.int (r14 &&& r20)]) (rest := []) (n := 1) ⟨hx, hb, hml, hown, hts⟩ (d_J6_bitCount_0f7a4 l E Z v (r14 &&& r20) hs22) gX7_sure_J6_bitCount_0f7a4 rfl hS_J6_bitCount_0f7a4 ⟨Nat.le_of_ble_eq_true rfl, Nat.le_of_ble_eq_true rfl⟩ hK hw rfl hl.1 rfl (Nat.le_of_ble_eq_true rfl) dX7_sure_68 rfl rfl (fun r23 v24 H locs hp hw => ?_)
              obtain ⟨hp, rfl⟩ := hp
              have hF := hF.trans (kb_some hp _)
              refine lv_istore (lv' := [(7, .int r23), (6, .int r17), (5, .int r14), (0, .ref (Z.1 0 0)), (1, .int a1), (2, .int a2), (3, .int a3), (4, .int a4)]) hx hb dX7_sure_71 hl (by decide) rfl (fun ls hl => ?_)
              refine lv_iload hx hb dX7_sure_73 (lv_at hl 1 rfl) ?_
              refine lv_iload hx hb dX7_sure_75 (lv_at hl 0 rfl) ?_
              refine lv_isub hx hb dX7_sure_77 ?_
              refine lv_bipush (v := 10) hx hb dX7_sure_78 (by decide) ?_
              refine lv_imul hx hb dX7_sure_80 ?_
              refine lv_iload hx hb dX7_sure_81 (lv_at hl 0 rfl) ?_
              refine lv_iload_n hx hb dX7_sure_83 rfl (lv_at hl 6 rfl) ?_
              refine lv_imul hx hb dX7_sure_84 ?_
              refine lv_iadd hx hb dX7_sure_85 ?_
              refine lv_istore (lv' := [(8, .int (((r17 - r23) * 10) + (r23 * a3))), (7, .int r23), (6, .int r17), (5, .int r14), (0, .ref (Z.1 0 0)), (1, .int a1), (2, .int a2), (3, .int a3), (4, .int a4)]) hx hb dX7_sure_86 hl (by decide) rfl (fun ls hl => ?_)
              refine lv_iload hx hb dX7_sure_88 (lv_at hl 2 rfl) ?_
              refine lv_if_ne (tgt := 97) hx hb dX7_sure_90 (by decide) (fun c25 => ?_) (fun c25 => ?_)
              · skip
                have hF := hF.trans (if_neg c25)
                refine lv_iload hx hb dX7_sure_97 (lv_at hl 2 rfl) ?_
                refine lv_bipush (v := 10) hx hb dX7_sure_99 (by decide) ?_
                refine lv_imul hx hb dX7_sure_101 ?_
                refine lv_istore (lv' := [(9, .int (r17 * 10)), (8, .int (((r17 - r23) * 10) + (r23 * a3))), (7, .int r23), (6, .int r17), (5, .int r14), (0, .ref (Z.1 0 0)), (1, .int a1), (2, .int a2), (3, .int a3), (4, .int a4)]) hx hb dX7_sure_102 hl (by decide) rfl (fun ls hl => ?_)
                refine lv_iload hx hb dX7_sure_104 (lv_at hl 9 rfl) ?_
                refine lv_if_ne (tgt := 114) hx hb dX7_sure_106 (by decide) (fun c26 => ?_) (fun c26 => ?_)
                · skip
                  have hF := hF.trans (if_neg c26)
                  refine lv_iload hx hb dX7_sure_114 (lv_at hl 0 rfl) ?_
                  refine lv_iload hx hb dX7_sure_116 (lv_at hl 1 rfl) ?_
                  refine lv_iload hx hb dX7_sure_118 (lv_at hl 0 rfl) ?_
                  have hs27 : g_X7_commonDivisor v (((r17 - r23) * 10) + (r23 * a3)) (r17 * 10) ≠ none := fun q => hs (hF.trans (kb_n q _))
                  refine km_cS (As := [.int (((r17 - r23) * 10) + (r23 * a3)), .int (r17 * 10)]) (rest := [.int (r17 * 10)]) (n := 2) ⟨hx, hb, hml, hown, hts⟩ (d_X7_commonDivisor l E Z v (((r17 - r23) * 10) + (r23 * a3)) (r17 * 10) hs27) gX7_sure_X7_commonDivisor rfl hV_X7_commonDivisor ⟨Nat.le_of_ble_eq_true rfl, Nat.le_of_ble_eq_true rfl⟩ hK hw rfl hl.1 rfl (Nat.le_of_ble_eq_true rfl) dX7_sure_120 rfl rfl (fun r28 v29 H locs hp hw => ?_)
                  obtain ⟨hp, rfl⟩ := hp
                  have hF := hF.trans (kb_some hp _)
                  have hs30 : g_X7_lowest v (r17 * 10) r28 ≠ none := fun q => hs (hF.trans (kb_n q _))
                  refine km_cS (As := [.int (r17 * 10), .int r28]) (rest := []) (n := 2) ⟨hx, hb, hml, hown, hts⟩ (d_X7_lowest l E Z v (r17 * 10) r28 hs30) gX7_sure_X7_lowest rfl hV_X7_lowest ⟨Nat.le_of_ble_eq_true rfl, Nat.le_of_ble_eq_true rfl⟩ hK hw rfl hl.1 rfl (Nat.le_of_ble_eq_true rfl) dX7_sure_123 rfl rfl (fun r31 v32 H locs hp hw => ?_)
                  obtain ⟨hp, rfl⟩ := hp
                  have hF := hF.trans (kb_some hp _)
                  exact hret _ _ _ _ _ _ hw dX7_sure_126 ⟨hF, rfl⟩
                · skip
                  have hF := hF.trans (if_pos c26)
                  refine lv_iload hx hb dX7_sure_109 (lv_at hl 1 rfl) ?_
                  refine lv_goto (tgt := 116) hx hb dX7_sure_111 (by decide) ?_
                  refine lv_iload hx hb dX7_sure_116 (lv_at hl 1 rfl) ?_
                  refine lv_iload hx hb dX7_sure_118 (lv_at hl 0 rfl) ?_
                  have hs33 : g_X7_commonDivisor v (((r17 - r23) * 10) + (r23 * a3)) (r17 * 10) ≠ none := fun q => hs (hF.trans (kb_n q _))
                  refine km_cS (As := [.int (((r17 - r23) * 10) + (r23 * a3)), .int (r17 * 10)]) (rest := [.int (((r17 - r23) * 10) + (r23 * a3))]) (n := 2) ⟨hx, hb, hml, hown, hts⟩ (d_X7_commonDivisor l E Z v (((r17 - r23) * 10) + (r23 * a3)) (r17 * 10) hs33) gX7_sure_X7_commonDivisor rfl hV_X7_commonDivisor ⟨Nat.le_of_ble_eq_true rfl, Nat.le_of_ble_eq_true rfl⟩ hK hw rfl hl.1 rfl (Nat.le_of_ble_eq_true rfl) dX7_sure_120 rfl rfl (fun r34 v35 H locs hp hw => ?_)
                  obtain ⟨hp, rfl⟩ := hp
                  have hF := hF.trans (kb_some hp _)
                  have hs36 : g_X7_lowest v (((r17 - r23) * 10) + (r23 * a3)) r34 ≠ none := fun q => hs (hF.trans (kb_n q _))
                  refine km_cS (As := [.int (((r17 - r23) * 10) + (r23 * a3)), .int r34]) (rest := []) (n := 2) ⟨hx, hb, hml, hown, hts⟩ (d_X7_lowest l E Z v (((r17 - r23) * 10) + (r23 * a3)) r34 hs36) gX7_sure_X7_lowest rfl hV_X7_lowest ⟨Nat.le_of_ble_eq_true rfl, Nat.le_of_ble_eq_true rfl⟩ hK hw rfl hl.1 rfl (Nat.le_of_ble_eq_true rfl) dX7_sure_123 rfl rfl (fun r37 v38 H locs hp hw => ?_)
                  obtain ⟨hp, rfl⟩ := hp
                  have hF := hF.trans (kb_some hp _)
                  exact hret _ _ _ _ _ _ hw dX7_sure_126 ⟨hF, rfl⟩
              · skip
                have hF := hF.trans (if_pos c25)
                refine lv_iconst (v := 1) hx hb dX7_sure_93 (by decide) ?_
                refine lv_goto (tgt := 102) hx hb dX7_sure_94 (by decide) ?_
                refine lv_istore (lv' := [(9, .int 1), (8, .int (((r17 - r23) * 10) + (r23 * a3))), (7, .int r23), (6, .int r17), (5, .int r14), (0, .ref (Z.1 0 0)), (1, .int a1), (2, .int a2), (3, .int a3), (4, .int a4)]) hx hb dX7_sure_102 hl (by decide) rfl (fun ls hl => ?_)
                refine lv_iload hx hb dX7_sure_104 (lv_at hl 9 rfl) ?_
                refine lv_if_ne (tgt := 114) hx hb dX7_sure_106 (by decide) (fun c39 => ?_) (fun c39 => ?_)
                · skip
                  have hF := hF.trans (if_neg c39)
                  refine lv_iload hx hb dX7_sure_114 (lv_at hl 0 rfl) ?_
                  refine lv_iload hx hb dX7_sure_116 (lv_at hl 1 rfl) ?_
                  refine lv_iload hx hb dX7_sure_118 (lv_at hl 0 rfl) ?_
                  have hs40 : g_X7_commonDivisor v (((r17 - r23) * 10) + (r23 * a3)) 1 ≠ none := fun q => hs (hF.trans (kb_n q _))
                  refine km_cS (As := [.int (((r17 - r23) * 10) + (r23 * a3)), .int 1]) (rest := [.int 1]) (n := 2) ⟨hx, hb, hml, hown, hts⟩ (d_X7_commonDivisor l E Z v (((r17 - r23) * 10) + (r23 * a3)) 1 hs40) gX7_sure_X7_commonDivisor rfl hV_X7_commonDivisor ⟨Nat.le_of_ble_eq_true rfl, Nat.le_of_ble_eq_true rfl⟩ hK hw rfl hl.1 rfl (Nat.le_of_ble_eq_true rfl) dX7_sure_120 rfl rfl (fun r41 v42 H locs hp hw => ?_)
                  obtain ⟨hp, rfl⟩ := hp
                  have hF := hF.trans (kb_some hp _)
                  have hs43 : g_X7_lowest v 1 r41 ≠ none := fun q => hs (hF.trans (kb_n q _))
                  refine km_cS (As := [.int 1, .int r41]) (rest := []) (n := 2) ⟨hx, hb, hml, hown, hts⟩ (d_X7_lowest l E Z v 1 r41 hs43) gX7_sure_X7_lowest rfl hV_X7_lowest ⟨Nat.le_of_ble_eq_true rfl, Nat.le_of_ble_eq_true rfl⟩ hK hw rfl hl.1 rfl (Nat.le_of_ble_eq_true rfl) dX7_sure_123 rfl rfl (fun r44 v45 H locs hp hw => ?_)
                  obtain ⟨hp, rfl⟩ := hp
                  have hF := hF.trans (kb_some hp _)
                  exact hret _ _ _ _ _ _ hw dX7_sure_126 ⟨hF, rfl⟩
                · skip
                  have hF := hF.trans (if_pos c39)
                  refine lv_iload hx hb dX7_sure_109 (lv_at hl 1 rfl) ?_
                  refine lv_goto (tgt := 116) hx hb dX7_sure_111 (by decide) ?_
                  refine lv_iload hx hb dX7_sure_116 (lv_at hl 1 rfl) ?_
                  refine lv_iload hx hb dX7_sure_118 (lv_at hl 0 rfl) ?_
                  have hs46 : g_X7_commonDivisor v (((r17 - r23) * 10) + (r23 * a3)) 1 ≠ none := fun q => hs (hF.trans (kb_n q _))
                  refine km_cS (As := [.int (((r17 - r23) * 10) + (r23 * a3)), .int 1]) (rest := [.int (((r17 - r23) * 10) + (r23 * a3))]) (n := 2) ⟨hx, hb, hml, hown, hts⟩ (d_X7_commonDivisor l E Z v (((r17 - r23) * 10) + (r23 * a3)) 1 hs46) gX7_sure_X7_commonDivisor rfl hV_X7_commonDivisor ⟨Nat.le_of_ble_eq_true rfl, Nat.le_of_ble_eq_true rfl⟩ hK hw rfl hl.1 rfl (Nat.le_of_ble_eq_true rfl) dX7_sure_120 rfl rfl (fun r47 v48 H locs hp hw => ?_)
                  obtain ⟨hp, rfl⟩ := hp
                  have hF := hF.trans (kb_some hp _)
                  have hs49 : g_X7_lowest v (((r17 - r23) * 10) + (r23 * a3)) r47 ≠ none := fun q => hs (hF.trans (kb_n q _))
                  refine km_cS (As := [.int (((r17 - r23) * 10) + (r23 * a3)), .int r47]) (rest := []) (n := 2) ⟨hx, hb, hml, hown, hts⟩ (d_X7_lowest l E Z v (((r17 - r23) * 10) + (r23 * a3)) r47 hs49) gX7_sure_X7_lowest rfl hV_X7_lowest ⟨Nat.le_of_ble_eq_true rfl, Nat.le_of_ble_eq_true rfl⟩ hK hw rfl hl.1 rfl (Nat.le_of_ble_eq_true rfl) dX7_sure_123 rfl rfl (fun r50 v51 H locs hp hw => ?_)
                  obtain ⟨hp, rfl⟩ := hp
                  have hF := hF.trans (kb_some hp _)
                  exact hret _ _ _ _ _ _ hw dX7_sure_126 ⟨hF, rfl⟩
            · skip
              have hF := hF.trans (if_neg c12)
              refine lv_ldc (v := (-1000001)) hx hb hown (hts (.constant RX7 59 (-1000001)) ow_X7_sure_59) dX7_sure_37 ?_
              exact hret _ _ _ _ _ _ hw dX7_sure_39 ⟨hF, rfl⟩
abbrev rmX7_drawn : Room := { frames := 4, cells := 0, slots := 0, locals := 96 }
def b_X7_drawn_L57  (rec57 : Int64 → Int32 → Int32 → Int32 → Option (Int32)) (v : Mm) (a1 : Int32) (a2 : Int32) (a3 : Int32) (x4_57 : Int64) (x6_57 : Int32) (x7_57 : Int32) (x8_57 : Int32) : Option (Int32) := if a1 ≤ x8_57 then (if a3 = 0 then (some x6_57) else (some x7_57)) else (Option.bind (g_X7_rest v (((x4_57 * 16807) - (x4_57 * 16807) / 2147483647 * 2147483647).toInt32) (v 6 0 6)) (fun r14 => Option.bind (g_X2_catches v 0 r14 ((((x4_57 * 16807) - (x4_57 * 16807) / 2147483647 * 2147483647).toInt32) - (((x4_57 * 16807) - (x4_57 * 16807) / 2147483647 * 2147483647).toInt32) / 6 * 6) x8_57) (fun r17 => if r17 = 0 then (Option.bind (some (x7_57 ||| ((1 : Int32) <<< (r14 &&& 31)))) (fun x20 => rec57 ((x4_57 * 16807) - (x4_57 * 16807) / 2147483647 * 2147483647) x6_57 x20 (x8_57 + 1))) else (rec57 ((x4_57 * 16807) - (x4_57 * 16807) / 2147483647 * 2147483647) (x6_57 + 1) x7_57 (x8_57 + 1)))))
def g_X7_drawn_L57  (v : Mm) (a1 : Int32) (a2 : Int32) (a3 : Int32) : Nat → Int64 → Int32 → Int32 → Int32 → Option (Int32)
  | 0 => fun _ _ _ _ => none
  | n + 1 => b_X7_drawn_L57  (g_X7_drawn_L57  v a1 a2 a3 n) v a1 a2 a3
def g_X7_drawn (v : Mm) (a1 : Int32) (a2 : Int32) (a3 : Int32) : Option (Int32) := Option.bind (g_X7_noGate v) (fun r2 => if r2 = 0 then (if a1 < 0 then (some ((-1000001))) else (if 60 < a1 then (some ((-1000001))) else (if a2 < 1 then (some ((-1000001))) else (if 999999 < a2 then (some ((-1000001))) else (if a3 < 0 then (some ((-1000001))) else (if a3 ≤ 1 then (g_X7_drawn_L57  v a1 a2 a3 2000 a2.toInt64 0 0 0) else (some ((-1000001))))))))) else (some ((-1000002))))
set_option maxHeartbeats 4000000 in
set_option maxRecDepth 100000 in
theorem d_X7_drawn (l : Launch) (E : kq_T) (Z : km_Z) (v : Mm) (a1 : Int32) (a2 : Int32) (a3 : Int32) (hs : g_X7_drawn v a1 a2 a3 ≠ none) : km_I l E Z cntX yX7_drawn wsX7_drawn rmX7_drawn [.ref (Z.1 0 0), .int a1, .int a2, .int a3] v (fun r v1 => g_X7_drawn v a1 a2 a3 = some r ∧ v = v1) := by
  refine km_goI (cc := cX7_drawn) (maxL := 10) (by decide) rfl (Nat.le_of_ble_eq_true rfl) rfl rfl rfl ?_
  intro p e s m below meth c A ls Q C hK hw hl hret
  obtain ⟨hx, hb, hml, hown, hts, -, -, -⟩ := C
  have hown : s.vm.findClass RX7 = some m.cls := hown
  have hl : lv_has ls 10 [(0, .ref (Z.1 0 0)), (1, .int a1), (2, .int a2), (3, .int a3)] := hl
  have hF := g_X7_drawn.eq_1 v a1 a2 a3
  have loop57 : ∀ (n57 : Nat) (x4_57 : Int64) (x6_57 : Int32) (x7_57 : Int32) (x8_57 : Int32) (H : Heap) (locs : List Loc) (ls : Array Slot), g_X7_drawn v a1 a2 a3 = g_X7_drawn_L57  v a1 a2 a3 n57 x4_57 x6_57 x7_57 x8_57 → km_w E A s.heap [] Z cntX v H locs → lv_has ls 10 [(0, .ref (Z.1 0 0)), (1, .int a1), (2, .int a2), (3, .int a3), (4, .long x4_57), (6, .int x6_57), (7, .int x7_57), (8, .int x8_57)] → W p l e rmX7_drawn s m [.ref (Z.1 0 0), .int a1, .int a2, .int a3].toArray below meth c H locs 0 0 Q (F0 m 57 ls []) := by
    intro n57
    induction n57 with
    | zero => intro x4_57 x6_57 x7_57 x8_57 H locs ls hF hw hl; exact absurd (show g_X7_drawn v a1 a2 a3 = none from hF) hs
    | succ n57 ih57 =>
      intro x4_57 x6_57 x7_57 x8_57 H locs ls hF hw hl
      have hF := hF.trans (b_X7_drawn_L57.eq_1  (g_X7_drawn_L57  v a1 a2 a3 n57) v a1 a2 a3 x4_57 x6_57 x7_57 x8_57)
      refine lv_iload hx hb dX7_drawn_57 (lv_at hl 7 rfl) ?_
      refine lv_iload_n hx hb dX7_drawn_59 rfl (lv_at hl 1 rfl) ?_
      refine lv_icmp_ge (tgt := 131) hx hb dX7_drawn_60 (by decide) (fun c1 => ?_) (fun c1 => ?_)
      · skip
        have hF := hF.trans (if_pos c1)
        refine lv_iload_n hx hb dX7_drawn_131 rfl (lv_at hl 3 rfl) ?_
        refine lv_if_ne (tgt := 140) hx hb dX7_drawn_132 (by decide) (fun c2 => ?_) (fun c2 => ?_)
        · skip
          have hF := hF.trans (if_neg c2)
          refine lv_iload hx hb dX7_drawn_140 (lv_at hl 6 rfl) ?_
          exact hret _ _ _ _ _ _ hw dX7_drawn_142 ⟨hF, rfl⟩
        · skip
          have hF := hF.trans (if_pos c2)
          refine lv_iload hx hb dX7_drawn_135 (lv_at hl 5 rfl) ?_
          refine lv_goto (tgt := 142) hx hb dX7_drawn_137 (by decide) ?_
          exact hret _ _ _ _ _ _ hw dX7_drawn_142 ⟨hF, rfl⟩
      · skip
        have hF := hF.trans (if_neg c1)
        refine lv_lload hx hb dX7_drawn_63 (lv_at hl 4 rfl) ?_
        refine lv_ldc2 (v := 16807) hx hb hown (hts (.constantLong RX7 300 16807) (by decide +kernel)) dX7_drawn_65 ?_
        refine lv_lmul hx hb dX7_drawn_68 ?_
        refine lv_ldc2 (v := 2147483647) hx hb hown (hts (.constantLong RX7 302 2147483647) (by decide +kernel)) dX7_drawn_69 ?_
        refine lv_lrem hx hb dX7_drawn_72 (by decide) ?_
        refine lv_lstore (lv' := [(4, .long ((x4_57 * 16807) - (x4_57 * 16807) / 2147483647 * 2147483647)), (0, .ref (Z.1 0 0)), (1, .int a1), (2, .int a2), (3, .int a3), (6, .int x6_57), (7, .int x7_57), (8, .int x8_57)]) hx hb dX7_drawn_73 hl (by decide) rfl (fun ls hl => ?_)
        refine lv_lload hx hb dX7_drawn_75 (lv_at hl 0 rfl) ?_
        refine lv_l2i (v := ((x4_57 * 16807) - (x4_57 * 16807) / 2147483647 * 2147483647).toInt32) hx hb dX7_drawn_77 rfl ?_
        refine lv_aload_n hx hb dX7_drawn_78 rfl (lv_at hl 1 rfl) ?_
        refine km_get (ci := 7) (C := RX7) (T := TX7) (N := 9) (t := 0) (i := 0) hx hb hts fi_X7_drawn_X7 hown hK hw (by decide) (by decide) rfl rfl 2 (by decide) (hts (.fieldLink RX7 25 "WrongWord" "gate" "LWrongWord$Gate;") ow_X7_drawn_25) rfl dX7_drawn_79 ?_
        refine km_get (ci := 2) (C := RX2) (T := TX2) (N := 8) (t := 6) (i := 0) hx hb hts fi_X7_drawn_X2 hown hK hw (by decide) (by decide) rfl rfl 6 (by decide) (hts (.fieldLink RX7 130 "WrongWord$Gate" "words" "I") ow_X7_drawn_130) rfl dX7_drawn_82 ?_
        have hs3 : g_X7_rest v (((x4_57 * 16807) - (x4_57 * 16807) / 2147483647 * 2147483647).toInt32) (v 6 0 6) ≠ none := fun q => hs (hF.trans (kb_n q _))
        refine km_cS (As := [.int (((x4_57 * 16807) - (x4_57 * 16807) / 2147483647 * 2147483647).toInt32), .int (v 6 0 6)]) (rest := []) (n := 2) ⟨hx, hb, hml, hown, hts⟩ (d_X7_rest l E Z v (((x4_57 * 16807) - (x4_57 * 16807) / 2147483647 * 2147483647).toInt32) (v 6 0 6) hs3) gX7_drawn_X7_rest rfl hV_X7_rest ⟨Nat.le_of_ble_eq_true rfl, Nat.le_of_ble_eq_true rfl⟩ hK hw rfl hl.1 rfl (Nat.le_of_ble_eq_true rfl) dX7_drawn_85 rfl rfl (fun r4 v5 H locs hp hw => ?_)
        obtain ⟨hp, rfl⟩ := hp
        have hF := hF.trans (kb_some hp _)
        refine lv_istore (lv' := [(9, .int r4), (4, .long ((x4_57 * 16807) - (x4_57 * 16807) / 2147483647 * 2147483647)), (0, .ref (Z.1 0 0)), (1, .int a1), (2, .int a2), (3, .int a3), (6, .int x6_57), (7, .int x7_57), (8, .int x8_57)]) hx hb dX7_drawn_88 hl (by decide) rfl (fun ls hl => ?_)
        refine lv_aload_n hx hb dX7_drawn_90 rfl (lv_at hl 2 rfl) ?_
        refine km_get (ci := 7) (C := RX7) (T := TX7) (N := 9) (t := 0) (i := 0) hx hb hts fi_X7_drawn_X7 hown hK hw (by decide) (by decide) rfl rfl 2 (by decide) (hts (.fieldLink RX7 25 "WrongWord" "gate" "LWrongWord$Gate;") ow_X7_drawn_25) rfl dX7_drawn_91 ?_
        refine lv_iload hx hb dX7_drawn_94 (lv_at hl 0 rfl) ?_
        refine lv_lload hx hb dX7_drawn_96 (lv_at hl 1 rfl) ?_
        refine lv_l2i (v := ((x4_57 * 16807) - (x4_57 * 16807) / 2147483647 * 2147483647).toInt32) hx hb dX7_drawn_98 rfl ?_
        refine lv_bipush (v := 6) hx hb dX7_drawn_99 (by decide) ?_
        refine lv_irem hx hb dX7_drawn_101 (by decide) ?_
        refine lv_iload hx hb dX7_drawn_102 (lv_at hl 8 rfl) ?_
        have hs6 : g_X2_catches v 0 r4 ((((x4_57 * 16807) - (x4_57 * 16807) / 2147483647 * 2147483647).toInt32) - (((x4_57 * 16807) - (x4_57 * 16807) / 2147483647 * 2147483647).toInt32) / 6 * 6) x8_57 ≠ none := fun q => hs (hF.trans (kb_n q _))
        refine km_cI (As := [.int r4, .int ((((x4_57 * 16807) - (x4_57 * 16807) / 2147483647 * 2147483647).toInt32) - (((x4_57 * 16807) - (x4_57 * 16807) / 2147483647 * 2147483647).toInt32) / 6 * 6), .int x8_57]) (rest := []) (n := 3) (q := (RX2, TX2, 8)) (ci := 2) (t := 6) (i := 0) ⟨hx, hb, hml, hown, hts⟩ (d_X2_catches l E Z v 0 (by decide) r4 ((((x4_57 * 16807) - (x4_57 * 16807) / 2147483647 * 2147483647).toInt32) - (((x4_57 * 16807) - (x4_57 * 16807) / 2147483647 * 2147483647).toInt32) / 6 * 6) x8_57 hs6) gX7_drawn_X2_catches rfl hV_X2_catches ⟨Nat.le_of_ble_eq_true rfl, Nat.le_of_ble_eq_true rfl⟩ hK hw (by decide) (by decide) rfl rfl rfl hl.1 rfl (Nat.le_of_ble_eq_true rfl) dX7_drawn_104 rfl rfl (fun r7 v8 H locs hp hw => ?_)
        obtain ⟨hp, hzr7⟩ := hp
        obtain ⟨hp, rfl⟩ := hp
        have hF := hF.trans (kb_some hp _)
        refine lv_if_eq (tgt := 116) hx hb dX7_drawn_107 (by decide) (fun c9 => ?_) (fun c9 => ?_)
        · skip
          have hF := hF.trans (if_pos c9)
          refine lv_iload hx hb dX7_drawn_116 (lv_at hl 7 rfl) ?_
          refine lv_iconst (v := 1) hx hb dX7_drawn_118 (by decide) ?_
          refine lv_iload hx hb dX7_drawn_119 (lv_at hl 0 rfl) ?_
          refine lv_ishl hx hb dX7_drawn_121 ?_
          refine lv_ior hx hb dX7_drawn_122 ?_
          refine lv_topi (fun x10 ex10 => ?_)
          have hF := hF.trans (kb_some (congrArg some ex10.symm) _)
          refine lv_istore (lv' := [(7, .int x10), (9, .int r4), (4, .long ((x4_57 * 16807) - (x4_57 * 16807) / 2147483647 * 2147483647)), (0, .ref (Z.1 0 0)), (1, .int a1), (2, .int a2), (3, .int a3), (6, .int x6_57), (8, .int x8_57)]) hx hb dX7_drawn_123 hl (by decide) rfl (fun ls hl => ?_)
          refine lv_iinc (v := x8_57 + 1) (lv' := [(8, .int (x8_57 + 1)), (7, .int x10), (9, .int r4), (4, .long ((x4_57 * 16807) - (x4_57 * 16807) / 2147483647 * 2147483647)), (0, .ref (Z.1 0 0)), (1, .int a1), (2, .int a2), (3, .int a3), (6, .int x6_57)]) hx hb dX7_drawn_125 hl (k := 8) rfl rfl (by decide) rfl (fun ls hl => ?_)
          refine lv_goto (tgt := 57) hx hb dX7_drawn_128 (by decide) ?_
          have hl := lv_sub (l' := [(0, .ref (Z.1 0 0)), (1, .int a1), (2, .int a2), (3, .int a3), (4, .long ((x4_57 * 16807) - (x4_57 * 16807) / 2147483647 * 2147483647)), (6, .int x6_57), (7, .int x10), (8, .int (x8_57 + 1))]) hl [4, 5, 6, 7, 3, 8, 1, 0] rfl
          exact ih57 ((x4_57 * 16807) - (x4_57 * 16807) / 2147483647 * 2147483647) x6_57 x10 (x8_57 + 1) _ _ _ hF hw hl
        · skip
          have hF := hF.trans (if_neg c9)
          refine lv_iinc (v := x6_57 + 1) (lv' := [(6, .int (x6_57 + 1)), (9, .int r4), (4, .long ((x4_57 * 16807) - (x4_57 * 16807) / 2147483647 * 2147483647)), (0, .ref (Z.1 0 0)), (1, .int a1), (2, .int a2), (3, .int a3), (7, .int x7_57), (8, .int x8_57)]) hx hb dX7_drawn_110 hl (k := 6) rfl rfl (by decide) rfl (fun ls hl => ?_)
          refine lv_goto (tgt := 125) hx hb dX7_drawn_113 (by decide) ?_
          refine lv_iinc (v := x8_57 + 1) (lv' := [(8, .int (x8_57 + 1)), (6, .int (x6_57 + 1)), (9, .int r4), (4, .long ((x4_57 * 16807) - (x4_57 * 16807) / 2147483647 * 2147483647)), (0, .ref (Z.1 0 0)), (1, .int a1), (2, .int a2), (3, .int a3), (7, .int x7_57)]) hx hb dX7_drawn_125 hl (k := 8) rfl rfl (by decide) rfl (fun ls hl => ?_)
          refine lv_goto (tgt := 57) hx hb dX7_drawn_128 (by decide) ?_
          have hl := lv_sub (l' := [(0, .ref (Z.1 0 0)), (1, .int a1), (2, .int a2), (3, .int a3), (4, .long ((x4_57 * 16807) - (x4_57 * 16807) / 2147483647 * 2147483647)), (6, .int (x6_57 + 1)), (7, .int x7_57), (8, .int (x8_57 + 1))]) hl [4, 5, 6, 7, 3, 1, 8, 0] rfl
          exact ih57 ((x4_57 * 16807) - (x4_57 * 16807) / 2147483647 * 2147483647) (x6_57 + 1) x7_57 (x8_57 + 1) _ _ _ hF hw hl
  refine lv_aload_n hx hb dX7_drawn_0 rfl (lv_at hl 0 rfl) ?_
  have hs11 : g_X7_noGate v ≠ none := fun q => hs (hF.trans (kb_n q _))
  refine km_cI (As := []) (rest := []) (n := 0) (q := (RX7, TX7, 9)) (ci := 7) (t := 0) (i := 0) ⟨hx, hb, hml, hown, hts⟩ (d_X7_noGate l E Z v  hs11) gX7_drawn_X7_noGate rfl hV_X7_noGate ⟨Nat.le_of_ble_eq_true rfl, Nat.le_of_ble_eq_true rfl⟩ hK hw (by decide) (by decide) rfl rfl rfl hl.1 rfl (Nat.le_of_ble_eq_true rfl) dX7_drawn_1 rfl rfl (fun r12 v13 H locs hp hw => ?_)
  obtain ⟨hp, hzr12⟩ := hp
  obtain ⟨hp, rfl⟩ := hp
  have hF := hF.trans (kb_some hp _)
  refine lv_if_eq (tgt := 10) hx hb dX7_drawn_4 (by decide) (fun c14 => ?_) (fun c14 => ?_)
  · skip
    have hF := hF.trans (if_pos c14)
    refine lv_iload_n hx hb dX7_drawn_10 rfl (lv_at hl 1 rfl) ?_
    refine lv_if_lt (tgt := 41) hx hb dX7_drawn_11 (by decide) (fun c15 => ?_) (fun c15 => ?_)
    · skip
      have hF := hF.trans (if_pos c15)
      refine lv_ldc (v := (-1000001)) hx hb hown (hts (.constant RX7 59 (-1000001)) ow_X7_drawn_59) dX7_drawn_41 ?_
      exact hret _ _ _ _ _ _ hw dX7_drawn_43 ⟨hF, rfl⟩
    · skip
      have hF := hF.trans (if_neg c15)
      refine lv_iload_n hx hb dX7_drawn_14 rfl (lv_at hl 1 rfl) ?_
      refine lv_bipush (v := 60) hx hb dX7_drawn_15 (by decide) ?_
      refine lv_icmp_gt (tgt := 41) hx hb dX7_drawn_17 (by decide) (fun c16 => ?_) (fun c16 => ?_)
      · skip
        have hF := hF.trans (if_pos c16)
        refine lv_ldc (v := (-1000001)) hx hb hown (hts (.constant RX7 59 (-1000001)) ow_X7_drawn_59) dX7_drawn_41 ?_
        exact hret _ _ _ _ _ _ hw dX7_drawn_43 ⟨hF, rfl⟩
      · skip
        have hF := hF.trans (if_neg c16)
        refine lv_iload_n hx hb dX7_drawn_20 rfl (lv_at hl 2 rfl) ?_
        refine lv_iconst (v := 1) hx hb dX7_drawn_21 (by decide) ?_
        refine lv_icmp_lt (tgt := 41) hx hb dX7_drawn_22 (by decide) (fun c17 => ?_) (fun c17 => ?_)
        · skip
          have hF := hF.trans (if_pos c17)
          refine lv_ldc (v := (-1000001)) hx hb hown (hts (.constant RX7 59 (-1000001)) ow_X7_drawn_59) dX7_drawn_41 ?_
          exact hret _ _ _ _ _ _ hw dX7_drawn_43 ⟨hF, rfl⟩
        · skip
          have hF := hF.trans (if_neg c17)
          refine lv_iload_n hx hb dX7_drawn_25 rfl (lv_at hl 2 rfl) ?_
          refine lv_ldcw (v := 999999) hx hb hown (hts (.constant RX7 299 (999999)) ow_X7_drawn_299) dX7_drawn_26 ?_
          refine lv_icmp_gt (tgt := 41) hx hb dX7_drawn_29 (by decide) (fun c18 => ?_) (fun c18 => ?_)
          · skip
            have hF := hF.trans (if_pos c18)
            refine lv_ldc (v := (-1000001)) hx hb hown (hts (.constant RX7 59 (-1000001)) ow_X7_drawn_59) dX7_drawn_41 ?_
            exact hret _ _ _ _ _ _ hw dX7_drawn_43 ⟨hF, rfl⟩
          · skip
            have hF := hF.trans (if_neg c18)
            refine lv_iload_n hx hb dX7_drawn_32 rfl (lv_at hl 3 rfl) ?_
            refine lv_if_lt (tgt := 41) hx hb dX7_drawn_33 (by decide) (fun c19 => ?_) (fun c19 => ?_)
            · skip
              have hF := hF.trans (if_pos c19)
              refine lv_ldc (v := (-1000001)) hx hb hown (hts (.constant RX7 59 (-1000001)) ow_X7_drawn_59) dX7_drawn_41 ?_
              exact hret _ _ _ _ _ _ hw dX7_drawn_43 ⟨hF, rfl⟩
            · skip
              have hF := hF.trans (if_neg c19)
              refine lv_iload_n hx hb dX7_drawn_36 rfl (lv_at hl 3 rfl) ?_
              refine lv_iconst (v := 1) hx hb dX7_drawn_37 (by decide) ?_
              refine lv_icmp_le (tgt := 44) hx hb dX7_drawn_38 (by decide) (fun c20 => ?_) (fun c20 => ?_)
              · skip
                have hF := hF.trans (if_pos c20)
                refine lv_iload_n hx hb dX7_drawn_44 rfl (lv_at hl 2 rfl) ?_
                refine lv_i2l (v := a2.toInt64) hx hb dX7_drawn_45 rfl ?_
                refine lv_lstore (lv' := [(4, .long a2.toInt64), (0, .ref (Z.1 0 0)), (1, .int a1), (2, .int a2), (3, .int a3)]) hx hb dX7_drawn_46 hl (by decide) rfl (fun ls hl => ?_)
                refine lv_iconst (v := 0) hx hb dX7_drawn_48 (by decide) ?_
                refine lv_istore (lv' := [(6, .int 0), (4, .long a2.toInt64), (0, .ref (Z.1 0 0)), (1, .int a1), (2, .int a2), (3, .int a3)]) hx hb dX7_drawn_49 hl (by decide) rfl (fun ls hl => ?_)
                refine lv_iconst (v := 0) hx hb dX7_drawn_51 (by decide) ?_
                refine lv_istore (lv' := [(7, .int 0), (6, .int 0), (4, .long a2.toInt64), (0, .ref (Z.1 0 0)), (1, .int a1), (2, .int a2), (3, .int a3)]) hx hb dX7_drawn_52 hl (by decide) rfl (fun ls hl => ?_)
                refine lv_iconst (v := 0) hx hb dX7_drawn_54 (by decide) ?_
                refine lv_istore (lv' := [(8, .int 0), (7, .int 0), (6, .int 0), (4, .long a2.toInt64), (0, .ref (Z.1 0 0)), (1, .int a1), (2, .int a2), (3, .int a3)]) hx hb dX7_drawn_55 hl (by decide) rfl (fun ls hl => ?_)
                have hl := lv_sub (l' := [(0, .ref (Z.1 0 0)), (1, .int a1), (2, .int a2), (3, .int a3), (4, .long a2.toInt64), (6, .int 0), (7, .int 0), (8, .int 0)]) hl [4, 5, 6, 7, 3, 2, 1, 0] rfl
                exact loop57 2000 a2.toInt64 0 0 0 _ _ _ hF hw hl
              · skip
                have hF := hF.trans (if_neg c20)
                refine lv_ldc (v := (-1000001)) hx hb hown (hts (.constant RX7 59 (-1000001)) ow_X7_drawn_59) dX7_drawn_41 ?_
                exact hret _ _ _ _ _ _ hw dX7_drawn_43 ⟨hF, rfl⟩
  · skip
    have hF := hF.trans (if_neg c14)
    refine lv_ldc (v := (-1000002)) hx hb hown (hts (.constant RX7 136 (-1000002)) ow_X7_drawn_136) dX7_drawn_7 ?_
    exact hret _ _ _ _ _ _ hw dX7_drawn_9 ⟨hF, rfl⟩
abbrev rmX7_image : Room := { frames := 3, cells := 0, slots := 0, locals := 106 }
def g_X7_image (v : Mm) (a1 : Int32) : Option (Int32 × Mm) := if a1 < 0 then (some ((-1000001), v)) else (if a1 < 2 then (Option.bind (g_X7_noGate v) (fun r4 => if r4 = 0 then (if a1 < 0 ∨ 2 ≤ Int32.toNatClampNeg a1 then none else (Option.bind (g_X2_become v (2 + (Int32.toNatClampNeg a1)) 0) (fun v10 => some (1, v10)))) else (some ((-1000002), v)))) else (some ((-1000001), v)))
set_option maxHeartbeats 4000000 in
set_option maxRecDepth 100000 in
theorem d_X7_image (l : Launch) (E : kq_T) (Z : km_Z) (v : Mm) (a1 : Int32) (hs : g_X7_image v a1 ≠ none) : km_I l E Z cntX yX7_image wsX7_image rmX7_image [.ref (Z.1 0 0), .int a1] v (fun r v1 => g_X7_image v a1 = some (r, v1)) := by
  refine km_goI (cc := cX7_image) (maxL := 2) (by decide) rfl (Nat.le_of_ble_eq_true rfl) rfl rfl rfl ?_
  intro p e s m below meth c A ls Q C hK hw hl hret
  obtain ⟨hx, hb, hml, hown, hts, -, -, -⟩ := C
  have hown : s.vm.findClass RX7 = some m.cls := hown
  have hl : lv_has ls 2 [(0, .ref (Z.1 0 0)), (1, .int a1)] := hl
  have hF := g_X7_image.eq_1 v a1
  refine lv_iload_n hx hb dX7_image_0 rfl (lv_at hl 1 rfl) ?_
  refine lv_if_lt (tgt := 9) hx hb dX7_image_1 (by decide) (fun c1 => ?_) (fun c1 => ?_)
  · skip
    have hF := hF.trans (if_pos c1)
    refine lv_ldc (v := (-1000001)) hx hb hown (hts (.constant RX7 59 (-1000001)) ow_X7_image_59) dX7_image_9 ?_
    exact hret _ _ _ _ _ _ hw dX7_image_11 hF
  · skip
    have hF := hF.trans (if_neg c1)
    refine lv_iload_n hx hb dX7_image_4 rfl (lv_at hl 1 rfl) ?_
    refine lv_iconst (v := 2) hx hb dX7_image_5 (by decide) ?_
    refine lv_icmp_lt (tgt := 12) hx hb dX7_image_6 (by decide) (fun c2 => ?_) (fun c2 => ?_)
    · skip
      have hF := hF.trans (if_pos c2)
      refine lv_aload_n hx hb dX7_image_12 rfl (lv_at hl 0 rfl) ?_
      have hs3 : g_X7_noGate v ≠ none := fun q => hs (hF.trans (kb_n q _))
      refine km_cI (As := []) (rest := []) (n := 0) (q := (RX7, TX7, 9)) (ci := 7) (t := 0) (i := 0) ⟨hx, hb, hml, hown, hts⟩ (d_X7_noGate l E Z v  hs3) gX7_image_X7_noGate rfl hV_X7_noGate ⟨Nat.le_of_ble_eq_true rfl, Nat.le_of_ble_eq_true rfl⟩ hK hw (by decide) (by decide) rfl rfl rfl hl.1 rfl (Nat.le_of_ble_eq_true rfl) dX7_image_13 rfl rfl (fun r4 v5 H locs hp hw => ?_)
      obtain ⟨hp, hzr4⟩ := hp
      obtain ⟨hp, rfl⟩ := hp
      have hF := hF.trans (kb_some hp _)
      refine lv_if_eq (tgt := 22) hx hb dX7_image_16 (by decide) (fun c6 => ?_) (fun c6 => ?_)
      · skip
        have hF := hF.trans (if_pos c6)
        refine lv_aload_n hx hb dX7_image_22 rfl (lv_at hl 0 rfl) ?_
        refine km_get (ci := 7) (C := RX7) (T := TX7) (N := 9) (t := 0) (i := 0) hx hb hts fi_X7_image_X7 hown hK hw (by decide) (by decide) rfl rfl 4 (by decide) (hts (.fieldLink RX7 36 "WrongWord" "images" "[LWrongWord$Gate;") ow_X7_image_36) rfl dX7_image_23 ?_
        refine lv_iload_n hx hb dX7_image_26 rfl (lv_at hl 1 rfl) ?_
        have hb7 : ¬ (a1 < 0 ∨ 2 ≤ Int32.toNatClampNeg a1) := fun q => hs (hF.trans (if_pos q))
        have hF := hF.trans (if_neg hb7)
        refine km_imgs hx hb hK hw (by decide) hb7 dX7_image_27 ?_
        refine lv_aload_n hx hb dX7_image_28 rfl (lv_at hl 0 rfl) ?_
        refine km_get (ci := 7) (C := RX7) (T := TX7) (N := 9) (t := 0) (i := 0) hx hb hts fi_X7_image_X7 hown hK hw (by decide) (by decide) rfl rfl 2 (by decide) (hts (.fieldLink RX7 25 "WrongWord" "gate" "LWrongWord$Gate;") ow_X7_image_25) rfl dX7_image_29 ?_
        have hs8 : g_X2_become v (2 + (Int32.toNatClampNeg a1)) 0 ≠ none := fun q => hs (hF.trans (kb_n q _))
        refine km_cV (As := [.ref (Z.1 6 0)]) (rest := []) (n := 1) (q := (RX2, TX2, 8)) (ci := 2) (t := 6) (i := 2 + (Int32.toNatClampNeg a1)) ⟨hx, hb, hml, hown, hts⟩ (d_X2_become l E Z v (2 + (Int32.toNatClampNeg a1)) (show 2 + (Int32.toNatClampNeg a1) < 4 from Nat.add_lt_add_left (Nat.not_le.mp fun h9 => hb7 (Or.inr h9)) 2) 0 (by decide) hs8) gX7_image_X2_become rfl hV_X2_become ⟨Nat.le_of_ble_eq_true rfl, Nat.le_of_ble_eq_true rfl⟩ hK hw (by decide) (show 2 + (Int32.toNatClampNeg a1) < 4 from Nat.add_lt_add_left (Nat.not_le.mp fun h9 => hb7 (Or.inr h9)) 2) rfl rfl rfl hl.1 rfl (Nat.le_of_ble_eq_true rfl) dX7_image_32 rfl rfl (fun v10 H locs hp hw => ?_)
        have hF := hF.trans (kb_some hp _)
        refine lv_iconst (v := 1) hx hb dX7_image_35 (by decide) ?_
        exact hret _ _ _ _ _ _ hw dX7_image_36 hF
      · skip
        have hF := hF.trans (if_neg c6)
        refine lv_ldc (v := (-1000002)) hx hb hown (hts (.constant RX7 136 (-1000002)) ow_X7_image_136) dX7_image_19 ?_
        exact hret _ _ _ _ _ _ hw dX7_image_21 hF
    · skip
      have hF := hF.trans (if_neg c2)
      refine lv_ldc (v := (-1000001)) hx hb hown (hts (.constant RX7 59 (-1000001)) ow_X7_image_59) dX7_image_9 ?_
      exact hret _ _ _ _ _ _ hw dX7_image_11 hF
abbrev rmX7_restore : Room := { frames := 3, cells := 0, slots := 0, locals := 106 }
def g_X7_restore (v : Mm) (a1 : Int32) : Option (Int32 × Mm) := if a1 < 0 then (some ((-1000001), v)) else (if a1 < 2 then (if a1 < 0 ∨ 2 ≤ Int32.toNatClampNeg a1 then none else (if v 6 (2 + (Int32.toNatClampNeg a1)) 6 = 0 then (some ((-1000002), v)) else (if a1 < 0 ∨ 2 ≤ Int32.toNatClampNeg a1 then none else (Option.bind (g_X2_become v 0 (2 + (Int32.toNatClampNeg a1))) (fun v8 => Option.bind (g_X0_forget v8) (fun v11 => some (1, v11))))))) else (some ((-1000001), v)))
set_option maxHeartbeats 4000000 in
set_option maxRecDepth 100000 in
theorem d_X7_restore (l : Launch) (E : kq_T) (Z : km_Z) (v : Mm) (a1 : Int32) (hs : g_X7_restore v a1 ≠ none) : km_I l E Z cntX yX7_restore wsX7_restore rmX7_restore [.ref (Z.1 0 0), .int a1] v (fun r v1 => g_X7_restore v a1 = some (r, v1)) := by
  refine km_goI (cc := cX7_restore) (maxL := 2) (by decide) rfl (Nat.le_of_ble_eq_true rfl) rfl rfl rfl ?_
  intro p e s m below meth c A ls Q C hK hw hl hret
  obtain ⟨hx, hb, hml, hown, hts, -, -, -⟩ := C
  have hown : s.vm.findClass RX7 = some m.cls := hown
  have hl : lv_has ls 2 [(0, .ref (Z.1 0 0)), (1, .int a1)] := hl
  have hF := g_X7_restore.eq_1 v a1
  refine lv_iload_n hx hb dX7_restore_0 rfl (lv_at hl 1 rfl) ?_
  refine lv_if_lt (tgt := 9) hx hb dX7_restore_1 (by decide) (fun c1 => ?_) (fun c1 => ?_)
  · skip
    have hF := hF.trans (if_pos c1)
    refine lv_ldc (v := (-1000001)) hx hb hown (hts (.constant RX7 59 (-1000001)) ow_X7_restore_59) dX7_restore_9 ?_
    exact hret _ _ _ _ _ _ hw dX7_restore_11 hF
  · skip
    have hF := hF.trans (if_neg c1)
    refine lv_iload_n hx hb dX7_restore_4 rfl (lv_at hl 1 rfl) ?_
    refine lv_iconst (v := 2) hx hb dX7_restore_5 (by decide) ?_
    refine lv_icmp_lt (tgt := 12) hx hb dX7_restore_6 (by decide) (fun c2 => ?_) (fun c2 => ?_)
    · skip
      have hF := hF.trans (if_pos c2)
      refine lv_aload_n hx hb dX7_restore_12 rfl (lv_at hl 0 rfl) ?_
      refine km_get (ci := 7) (C := RX7) (T := TX7) (N := 9) (t := 0) (i := 0) hx hb hts fi_X7_restore_X7 hown hK hw (by decide) (by decide) rfl rfl 4 (by decide) (hts (.fieldLink RX7 36 "WrongWord" "images" "[LWrongWord$Gate;") ow_X7_restore_36) rfl dX7_restore_13 ?_
      refine lv_iload_n hx hb dX7_restore_16 rfl (lv_at hl 1 rfl) ?_
      have hb3 : ¬ (a1 < 0 ∨ 2 ≤ Int32.toNatClampNeg a1) := fun q => hs (hF.trans (if_pos q))
      have hF := hF.trans (if_neg hb3)
      refine km_imgs hx hb hK hw (by decide) hb3 dX7_restore_17 ?_
      refine km_get (ci := 2) (C := RX2) (T := TX2) (N := 8) (t := 6) (i := 2 + (Int32.toNatClampNeg a1)) hx hb hts fi_X7_restore_X2 hown hK hw (by decide) (show 2 + (Int32.toNatClampNeg a1) < 4 from Nat.add_lt_add_left (Nat.not_le.mp fun h9 => hb3 (Or.inr h9)) 2) rfl rfl 6 (by decide) (hts (.fieldLink RX7 130 "WrongWord$Gate" "words" "I") ow_X7_restore_130) rfl dX7_restore_18 ?_
      refine lv_if_ne (tgt := 27) hx hb dX7_restore_21 (by decide) (fun c4 => ?_) (fun c4 => ?_)
      · skip
        have hF := hF.trans (if_neg c4)
        refine lv_aload_n hx hb dX7_restore_27 rfl (lv_at hl 0 rfl) ?_
        refine km_get (ci := 7) (C := RX7) (T := TX7) (N := 9) (t := 0) (i := 0) hx hb hts fi_X7_restore_X7 hown hK hw (by decide) (by decide) rfl rfl 2 (by decide) (hts (.fieldLink RX7 25 "WrongWord" "gate" "LWrongWord$Gate;") ow_X7_restore_25) rfl dX7_restore_28 ?_
        refine lv_aload_n hx hb dX7_restore_31 rfl (lv_at hl 0 rfl) ?_
        refine km_get (ci := 7) (C := RX7) (T := TX7) (N := 9) (t := 0) (i := 0) hx hb hts fi_X7_restore_X7 hown hK hw (by decide) (by decide) rfl rfl 4 (by decide) (hts (.fieldLink RX7 36 "WrongWord" "images" "[LWrongWord$Gate;") ow_X7_restore_36) rfl dX7_restore_32 ?_
        refine lv_iload_n hx hb dX7_restore_35 rfl (lv_at hl 1 rfl) ?_
        have hb5 : ¬ (a1 < 0 ∨ 2 ≤ Int32.toNatClampNeg a1) := fun q => hs (hF.trans (if_pos q))
        have hF := hF.trans (if_neg hb5)
        refine km_imgs hx hb hK hw (by decide) hb5 dX7_restore_36 ?_
        have hs6 : g_X2_become v 0 (2 + (Int32.toNatClampNeg a1)) ≠ none := fun q => hs (hF.trans (kb_n q _))
        refine km_cV (As := [.ref (Z.1 6 (2 + (Int32.toNatClampNeg a1)))]) (rest := []) (n := 1) (q := (RX2, TX2, 8)) (ci := 2) (t := 6) (i := 0) ⟨hx, hb, hml, hown, hts⟩ (d_X2_become l E Z v 0 (by decide) (2 + (Int32.toNatClampNeg a1)) (show 2 + (Int32.toNatClampNeg a1) < 4 from Nat.add_lt_add_left (Nat.not_le.mp fun h9 => hb5 (Or.inr h9)) 2) hs6) gX7_restore_X2_become rfl hV_X2_become ⟨Nat.le_of_ble_eq_true rfl, Nat.le_of_ble_eq_true rfl⟩ hK hw (by decide) (by decide) rfl rfl rfl hl.1 rfl (Nat.le_of_ble_eq_true rfl) dX7_restore_37 rfl rfl (fun v8 H locs hp hw => ?_)
        have hF := hF.trans (kb_some hp _)
        refine lv_aload_n hx hb dX7_restore_40 rfl (lv_at hl 0 rfl) ?_
        refine km_get (ci := 7) (C := RX7) (T := TX7) (N := 9) (t := 0) (i := 0) hx hb hts fi_X7_restore_X7 hown hK hw (by decide) (by decide) rfl rfl 3 (by decide) (hts (.fieldLink RX7 32 "WrongWord" "acts" "LWrongWord$Acts;") ow_X7_restore_32) rfl dX7_restore_41 ?_
        have hs9 : g_X0_forget v8 ≠ none := fun q => hs (hF.trans (kb_n q _))
        refine km_cV (As := []) (rest := []) (n := 0) (q := (RX0, TX0, 3)) (ci := 0) (t := 15) (i := 0) ⟨hx, hb, hml, hown, hts⟩ (d_X0_forget l E Z v8  hs9) gX7_restore_X0_forget rfl hV_X0_forget ⟨Nat.le_of_ble_eq_true rfl, Nat.le_of_ble_eq_true rfl⟩ hK hw (by decide) (by decide) rfl rfl rfl hl.1 rfl (Nat.le_of_ble_eq_true rfl) dX7_restore_44 rfl rfl (fun v11 H locs hp hw => ?_)
        have hF := hF.trans (kb_some hp _)
        refine lv_iconst (v := 1) hx hb dX7_restore_47 (by decide) ?_
        exact hret _ _ _ _ _ _ hw dX7_restore_48 hF
      · skip
        have hF := hF.trans (if_pos c4)
        refine lv_ldc (v := (-1000002)) hx hb hown (hts (.constant RX7 136 (-1000002)) ow_X7_restore_136) dX7_restore_24 ?_
        exact hret _ _ _ _ _ _ hw dX7_restore_26 hF
    · skip
      have hF := hF.trans (if_neg c2)
      refine lv_ldc (v := (-1000001)) hx hb hown (hts (.constant RX7 59 (-1000001)) ow_X7_restore_59) dX7_restore_9 ?_
      exact hret _ _ _ _ _ _ hw dX7_restore_11 hF
abbrev rmX7_kind : Room := { frames := 1, cells := 0, slots := 0, locals := 21 }
def g_X7_kind (v : Mm) (a1 : Int32) : Option (Int32) := Option.bind (g_X7_isGuard v a1) (fun r2 => if r2 = 0 then (some ((-1000001))) else (if a1 < 0 ∨ 4 ≤ Int32.toNatClampNeg a1 then none else (some (v 8 0 (Int32.toNatClampNeg a1)))))
set_option maxHeartbeats 4000000 in
set_option maxRecDepth 100000 in
theorem d_X7_kind (l : Launch) (E : kq_T) (Z : km_Z) (v : Mm) (a1 : Int32) (hs : g_X7_kind v a1 ≠ none) : km_I l E Z cntX yX7_kind wsX7_kind rmX7_kind [.ref (Z.1 0 0), .int a1] v (fun r v1 => g_X7_kind v a1 = some r ∧ v = v1) := by
  refine km_goI (cc := cX7_kind) (maxL := 2) (by decide) rfl (Nat.le_of_ble_eq_true rfl) rfl rfl rfl ?_
  intro p e s m below meth c A ls Q C hK hw hl hret
  obtain ⟨hx, hb, hml, hown, hts, -, -, -⟩ := C
  have hown : s.vm.findClass RX7 = some m.cls := hown
  have hl : lv_has ls 2 [(0, .ref (Z.1 0 0)), (1, .int a1)] := hl
  have hF := g_X7_kind.eq_1 v a1
  refine lv_aload_n hx hb dX7_kind_0 rfl (lv_at hl 0 rfl) ?_
  refine lv_iload_n hx hb dX7_kind_1 rfl (lv_at hl 1 rfl) ?_
  have hs1 : g_X7_isGuard v a1 ≠ none := fun q => hs (hF.trans (kb_n q _))
  refine km_cI (As := [.int a1]) (rest := []) (n := 1) (q := (RX7, TX7, 9)) (ci := 7) (t := 0) (i := 0) ⟨hx, hb, hml, hown, hts⟩ (d_X7_isGuard l E Z v a1 hs1) gX7_kind_X7_isGuard rfl hV_X7_isGuard ⟨Nat.le_of_ble_eq_true rfl, Nat.le_of_ble_eq_true rfl⟩ hK hw (by decide) (by decide) rfl rfl rfl hl.1 rfl (Nat.le_of_ble_eq_true rfl) dX7_kind_2 rfl rfl (fun r2 v3 H locs hp hw => ?_)
  obtain ⟨hp, hzr2⟩ := hp
  obtain ⟨hp, rfl⟩ := hp
  have hF := hF.trans (kb_some hp _)
  refine lv_if_eq (tgt := 20) hx hb dX7_kind_5 (by decide) (fun c4 => ?_) (fun c4 => ?_)
  · skip
    have hF := hF.trans (if_pos c4)
    refine lv_ldc (v := (-1000001)) hx hb hown (hts (.constant RX7 59 (-1000001)) ow_X7_kind_59) dX7_kind_20 ?_
    exact hret _ _ _ _ _ _ hw dX7_kind_22 ⟨hF, rfl⟩
  · skip
    have hF := hF.trans (if_neg c4)
    refine lv_aload_n hx hb dX7_kind_8 rfl (lv_at hl 0 rfl) ?_
    refine km_get (ci := 7) (C := RX7) (T := TX7) (N := 9) (t := 0) (i := 0) hx hb hts fi_X7_kind_X7 hown hK hw (by decide) (by decide) rfl rfl 2 (by decide) (hts (.fieldLink RX7 25 "WrongWord" "gate" "LWrongWord$Gate;") ow_X7_kind_25) rfl dX7_kind_9 ?_
    refine km_get (ci := 2) (C := RX2) (T := TX2) (N := 8) (t := 6) (i := 0) hx hb hts fi_X7_kind_X2 hown hK hw (by decide) (by decide) rfl rfl 1 (by decide) (hts (.fieldLink RX7 278 "WrongWord$Gate" "kinds" "[I") ow_X7_kind_278) rfl dX7_kind_12 ?_
    refine lv_iload_n hx hb dX7_kind_15 rfl (lv_at hl 1 rfl) ?_
    have hb5 : ¬ (a1 < 0 ∨ 4 ≤ Int32.toNatClampNeg a1) := fun q => hs (hF.trans (if_pos q))
    have hF := hF.trans (if_neg hb5)
    refine km_iald (t := 8) (i := 0) hx hb hK hw (by decide) (by decide) rfl hb5 dX7_kind_16 ?_
    refine lv_goto (tgt := 22) hx hb dX7_kind_17 (by decide) ?_
    exact hret _ _ _ _ _ _ hw dX7_kind_22 ⟨hF, rfl⟩
abbrev rmX7_as : Room := { frames := 1, cells := 0, slots := 0, locals := 23 }
def g_X7_as (v : Mm) (a1 : Int32) (a2 : Int32) : Option (Int32 × Mm) := Option.bind (g_X7_isGuard v a1) (fun r2 => if r2 = 0 then (some ((-1000001), v)) else (if a2 < 0 then (some ((-1000001), v)) else (if a2 ≤ 5 then (if a1 < 0 ∨ 4 ≤ Int32.toNatClampNeg a1 then none else (Option.bind (g_X1_isA v (v 8 0 (Int32.toNatClampNeg a1)) a2) (fun r9 => if r9 = 0 then (kb2 (g_X7_found v 3) (fun r13 v14 => some (r13, v14))) else (kb2 (g_X7_unfound v a1) (fun r16 v17 => some (r16, v17)))))) else (some ((-1000001), v)))))
set_option maxHeartbeats 4000000 in
set_option maxRecDepth 100000 in
theorem d_X7_as (l : Launch) (E : kq_T) (Z : km_Z) (v : Mm) (a1 : Int32) (a2 : Int32) (hs : g_X7_as v a1 a2 ≠ none) : km_I l E Z cntX yX7_as wsX7_as rmX7_as [.ref (Z.1 0 0), .int a1, .int a2] v (fun r v1 => g_X7_as v a1 a2 = some (r, v1)) := by
  refine km_goI (cc := cX7_as) (maxL := 3) (by decide) rfl (Nat.le_of_ble_eq_true rfl) rfl rfl rfl ?_
  intro p e s m below meth c A ls Q C hK hw hl hret
  obtain ⟨hx, hb, hml, hown, hts, -, -, -⟩ := C
  have hown : s.vm.findClass RX7 = some m.cls := hown
  have hl : lv_has ls 3 [(0, .ref (Z.1 0 0)), (1, .int a1), (2, .int a2)] := hl
  have hF := g_X7_as.eq_1 v a1 a2
  refine lv_aload_n hx hb dX7_as_0 rfl (lv_at hl 0 rfl) ?_
  refine lv_iload_n hx hb dX7_as_1 rfl (lv_at hl 1 rfl) ?_
  have hs1 : g_X7_isGuard v a1 ≠ none := fun q => hs (hF.trans (kb_n q _))
  refine km_cI (As := [.int a1]) (rest := []) (n := 1) (q := (RX7, TX7, 9)) (ci := 7) (t := 0) (i := 0) ⟨hx, hb, hml, hown, hts⟩ (d_X7_isGuard l E Z v a1 hs1) gX7_as_X7_isGuard rfl hV_X7_isGuard ⟨Nat.le_of_ble_eq_true rfl, Nat.le_of_ble_eq_true rfl⟩ hK hw (by decide) (by decide) rfl rfl rfl hl.1 rfl (Nat.le_of_ble_eq_true rfl) dX7_as_2 rfl rfl (fun r2 v3 H locs hp hw => ?_)
  obtain ⟨hp, hzr2⟩ := hp
  obtain ⟨hp, rfl⟩ := hp
  have hF := hF.trans (kb_some hp _)
  refine lv_if_eq (tgt := 17) hx hb dX7_as_5 (by decide) (fun c4 => ?_) (fun c4 => ?_)
  · skip
    have hF := hF.trans (if_pos c4)
    refine lv_ldc (v := (-1000001)) hx hb hown (hts (.constant RX7 59 (-1000001)) ow_X7_as_59) dX7_as_17 ?_
    exact hret _ _ _ _ _ _ hw dX7_as_19 hF
  · skip
    have hF := hF.trans (if_neg c4)
    refine lv_iload_n hx hb dX7_as_8 rfl (lv_at hl 2 rfl) ?_
    refine lv_if_lt (tgt := 17) hx hb dX7_as_9 (by decide) (fun c5 => ?_) (fun c5 => ?_)
    · skip
      have hF := hF.trans (if_pos c5)
      refine lv_ldc (v := (-1000001)) hx hb hown (hts (.constant RX7 59 (-1000001)) ow_X7_as_59) dX7_as_17 ?_
      exact hret _ _ _ _ _ _ hw dX7_as_19 hF
    · skip
      have hF := hF.trans (if_neg c5)
      refine lv_iload_n hx hb dX7_as_12 rfl (lv_at hl 2 rfl) ?_
      refine lv_iconst (v := 5) hx hb dX7_as_13 (by decide) ?_
      refine lv_icmp_le (tgt := 20) hx hb dX7_as_14 (by decide) (fun c6 => ?_) (fun c6 => ?_)
      · skip
        have hF := hF.trans (if_pos c6)
        refine lv_aload_n hx hb dX7_as_20 rfl (lv_at hl 0 rfl) ?_
        refine km_get (ci := 7) (C := RX7) (T := TX7) (N := 9) (t := 0) (i := 0) hx hb hts fi_X7_as_X7 hown hK hw (by decide) (by decide) rfl rfl 2 (by decide) (hts (.fieldLink RX7 25 "WrongWord" "gate" "LWrongWord$Gate;") ow_X7_as_25) rfl dX7_as_21 ?_
        refine km_get (ci := 2) (C := RX2) (T := TX2) (N := 8) (t := 6) (i := 0) hx hb hts fi_X7_as_X2 hown hK hw (by decide) (by decide) rfl rfl 1 (by decide) (hts (.fieldLink RX7 278 "WrongWord$Gate" "kinds" "[I") ow_X7_as_278) rfl dX7_as_24 ?_
        refine lv_iload_n hx hb dX7_as_27 rfl (lv_at hl 1 rfl) ?_
        have hb7 : ¬ (a1 < 0 ∨ 4 ≤ Int32.toNatClampNeg a1) := fun q => hs (hF.trans (if_pos q))
        have hF := hF.trans (if_neg hb7)
        refine km_iald (t := 8) (i := 0) hx hb hK hw (by decide) (by decide) rfl hb7 dX7_as_28 ?_
        refine lv_iload_n hx hb dX7_as_29 rfl (lv_at hl 2 rfl) ?_
        have hs8 : g_X1_isA v (v 8 0 (Int32.toNatClampNeg a1)) a2 ≠ none := fun q => hs (hF.trans (kb_n q _))
        refine km_cSJ (As := [.int (v 8 0 (Int32.toNatClampNeg a1)), .int a2]) (rest := []) (n := 2) ⟨hx, hb, hml, hown, hts⟩ (d_X1_isA l E Z v (v 8 0 (Int32.toNatClampNeg a1)) a2 hs8) gX7_as_X1_isA rfl hS_X1_isA ⟨Nat.le_of_ble_eq_true rfl, Nat.le_of_ble_eq_true rfl⟩ hK hw rfl hl.1 rfl (Nat.le_of_ble_eq_true rfl) dX7_as_30 rfl rfl (fun r9 v10 H locs hp hw => ?_)
        obtain ⟨hp, hzr9⟩ := hp
        obtain ⟨hp, rfl⟩ := hp
        have hF := hF.trans (kb_some hp _)
        refine lv_if_eq (tgt := 44) hx hb dX7_as_33 (by decide) (fun c11 => ?_) (fun c11 => ?_)
        · skip
          have hF := hF.trans (if_pos c11)
          refine lv_aload_n hx hb dX7_as_44 rfl (lv_at hl 0 rfl) ?_
          refine lv_iconst (v := 3) hx hb dX7_as_45 (by decide) ?_
          have hs12 : g_X7_found v 3 ≠ none := fun q => hs (hF.trans (kb2_n q _))
          refine km_cI (As := [.int 3]) (rest := []) (n := 1) (q := (RX7, TX7, 9)) (ci := 7) (t := 0) (i := 0) ⟨hx, hb, hml, hown, hts⟩ (d_X7_found l E Z v 3 hs12) gX7_as_X7_found rfl hV_X7_found ⟨Nat.le_of_ble_eq_true rfl, Nat.le_of_ble_eq_true rfl⟩ hK hw (by decide) (by decide) rfl rfl rfl hl.1 rfl (Nat.le_of_ble_eq_true rfl) dX7_as_46 rfl rfl (fun r13 v14 H locs hp hw => ?_)
          have hF := hF.trans (kb2_some hp _)
          exact hret _ _ _ _ _ _ hw dX7_as_49 hF
        · skip
          have hF := hF.trans (if_neg c11)
          refine lv_aload_n hx hb dX7_as_36 rfl (lv_at hl 0 rfl) ?_
          refine lv_iload_n hx hb dX7_as_37 rfl (lv_at hl 1 rfl) ?_
          have hs15 : g_X7_unfound v a1 ≠ none := fun q => hs (hF.trans (kb2_n q _))
          refine km_cI (As := [.int a1]) (rest := []) (n := 1) (q := (RX7, TX7, 9)) (ci := 7) (t := 0) (i := 0) ⟨hx, hb, hml, hown, hts⟩ (d_X7_unfound l E Z v a1 hs15) gX7_as_X7_unfound rfl hV_X7_unfound ⟨Nat.le_of_ble_eq_true rfl, Nat.le_of_ble_eq_true rfl⟩ hK hw (by decide) (by decide) rfl rfl rfl hl.1 rfl (Nat.le_of_ble_eq_true rfl) dX7_as_38 rfl rfl (fun r16 v17 H locs hp hw => ?_)
          have hF := hF.trans (kb2_some hp _)
          refine lv_goto (tgt := 49) hx hb dX7_as_41 (by decide) ?_
          exact hret _ _ _ _ _ _ hw dX7_as_49 hF
      · skip
        have hF := hF.trans (if_neg c6)
        refine lv_ldc (v := (-1000001)) hx hb hown (hts (.constant RX7 59 (-1000001)) ow_X7_as_59) dX7_as_17 ?_
        exact hret _ _ _ _ _ _ hw dX7_as_19 hF
abbrev rmX7_ask : Room := { frames := 33, cells := 0, slots := 0, locals := 1284 }
def g_X7_ask (v : Mm) (a1 : Int32) (a2 : Int32) : Option (Int32 × Mm) := Option.bind (g_X7_isGuard v a1) (fun r2 => if r2 = 0 then (some ((-1000001), v)) else (if a2 < 0 then (some ((-1000001), v)) else (if a2 ≤ 1 then (if a1 < 0 ∨ 4 ≤ Int32.toNatClampNeg a1 then none else (if a1 < 0 ∨ 4 ≤ Int32.toNatClampNeg a1 then none else (if a1 < 0 ∨ 4 ≤ Int32.toNatClampNeg a1 then none else (Option.bind (g_X1_turnTo v a1 (v 8 0 (Int32.toNatClampNeg a1)) (v 9 0 (Int32.toNatClampNeg a1)) (v 11 0 (Int32.toNatClampNeg a1))) (fun v12 => kb2 (g_X1_answer v12 a2) (fun r14 v15 => some (r14, v15))))))) else (some ((-1000001), v)))))
set_option maxHeartbeats 4000000 in
set_option maxRecDepth 100000 in
theorem d_X7_ask (l : Launch) (E : kq_T) (Z : km_Z) (v : Mm) (a1 : Int32) (a2 : Int32) (hs : g_X7_ask v a1 a2 ≠ none) : km_I l E Z cntX yX7_ask wsX7_ask rmX7_ask [.ref (Z.1 0 0), .int a1, .int a2] v (fun r v1 => g_X7_ask v a1 a2 = some (r, v1)) := by
  refine km_goI (cc := cX7_ask) (maxL := 3) (by decide) rfl (Nat.le_of_ble_eq_true rfl) rfl rfl rfl ?_
  intro p e s m below meth c A ls Q C hK hw hl hret
  obtain ⟨hx, hb, hml, hown, hts, -, -, -⟩ := C
  have hown : s.vm.findClass RX7 = some m.cls := hown
  have hl : lv_has ls 3 [(0, .ref (Z.1 0 0)), (1, .int a1), (2, .int a2)] := hl
  have hF := g_X7_ask.eq_1 v a1 a2
  refine lv_aload_n hx hb dX7_ask_0 rfl (lv_at hl 0 rfl) ?_
  refine lv_iload_n hx hb dX7_ask_1 rfl (lv_at hl 1 rfl) ?_
  have hs1 : g_X7_isGuard v a1 ≠ none := fun q => hs (hF.trans (kb_n q _))
  refine km_cI (As := [.int a1]) (rest := []) (n := 1) (q := (RX7, TX7, 9)) (ci := 7) (t := 0) (i := 0) ⟨hx, hb, hml, hown, hts⟩ (d_X7_isGuard l E Z v a1 hs1) gX7_ask_X7_isGuard rfl hV_X7_isGuard ⟨Nat.le_of_ble_eq_true rfl, Nat.le_of_ble_eq_true rfl⟩ hK hw (by decide) (by decide) rfl rfl rfl hl.1 rfl (Nat.le_of_ble_eq_true rfl) dX7_ask_2 rfl rfl (fun r2 v3 H locs hp hw => ?_)
  obtain ⟨hp, hzr2⟩ := hp
  obtain ⟨hp, rfl⟩ := hp
  have hF := hF.trans (kb_some hp _)
  refine lv_if_eq (tgt := 17) hx hb dX7_ask_5 (by decide) (fun c4 => ?_) (fun c4 => ?_)
  · skip
    have hF := hF.trans (if_pos c4)
    refine lv_ldc (v := (-1000001)) hx hb hown (hts (.constant RX7 59 (-1000001)) ow_X7_ask_59) dX7_ask_17 ?_
    exact hret _ _ _ _ _ _ hw dX7_ask_19 hF
  · skip
    have hF := hF.trans (if_neg c4)
    refine lv_iload_n hx hb dX7_ask_8 rfl (lv_at hl 2 rfl) ?_
    refine lv_if_lt (tgt := 17) hx hb dX7_ask_9 (by decide) (fun c5 => ?_) (fun c5 => ?_)
    · skip
      have hF := hF.trans (if_pos c5)
      refine lv_ldc (v := (-1000001)) hx hb hown (hts (.constant RX7 59 (-1000001)) ow_X7_ask_59) dX7_ask_17 ?_
      exact hret _ _ _ _ _ _ hw dX7_ask_19 hF
    · skip
      have hF := hF.trans (if_neg c5)
      refine lv_iload_n hx hb dX7_ask_12 rfl (lv_at hl 2 rfl) ?_
      refine lv_iconst (v := 1) hx hb dX7_ask_13 (by decide) ?_
      refine lv_icmp_le (tgt := 20) hx hb dX7_ask_14 (by decide) (fun c6 => ?_) (fun c6 => ?_)
      · skip
        have hF := hF.trans (if_pos c6)
        refine lv_aload_n hx hb dX7_ask_20 rfl (lv_at hl 0 rfl) ?_
        refine km_get (ci := 7) (C := RX7) (T := TX7) (N := 9) (t := 0) (i := 0) hx hb hts fi_X7_ask_X7 hown hK hw (by decide) (by decide) rfl rfl 6 (by decide) (hts (.fieldLink RX7 50 "WrongWord" "asks" "LWrongWord$Asks;") ow_X7_ask_50) rfl dX7_ask_21 ?_
        refine lv_iload_n hx hb dX7_ask_24 rfl (lv_at hl 1 rfl) ?_
        refine lv_aload_n hx hb dX7_ask_25 rfl (lv_at hl 0 rfl) ?_
        refine km_get (ci := 7) (C := RX7) (T := TX7) (N := 9) (t := 0) (i := 0) hx hb hts fi_X7_ask_X7 hown hK hw (by decide) (by decide) rfl rfl 2 (by decide) (hts (.fieldLink RX7 25 "WrongWord" "gate" "LWrongWord$Gate;") ow_X7_ask_25) rfl dX7_ask_26 ?_
        refine km_get (ci := 2) (C := RX2) (T := TX2) (N := 8) (t := 6) (i := 0) hx hb hts fi_X7_ask_X2 hown hK hw (by decide) (by decide) rfl rfl 1 (by decide) (hts (.fieldLink RX7 278 "WrongWord$Gate" "kinds" "[I") ow_X7_ask_278) rfl dX7_ask_29 ?_
        refine lv_iload_n hx hb dX7_ask_32 rfl (lv_at hl 1 rfl) ?_
        have hb7 : ¬ (a1 < 0 ∨ 4 ≤ Int32.toNatClampNeg a1) := fun q => hs (hF.trans (if_pos q))
        have hF := hF.trans (if_neg hb7)
        refine km_iald (t := 8) (i := 0) hx hb hK hw (by decide) (by decide) rfl hb7 dX7_ask_33 ?_
        refine lv_aload_n hx hb dX7_ask_34 rfl (lv_at hl 0 rfl) ?_
        refine km_get (ci := 7) (C := RX7) (T := TX7) (N := 9) (t := 0) (i := 0) hx hb hts fi_X7_ask_X7 hown hK hw (by decide) (by decide) rfl rfl 2 (by decide) (hts (.fieldLink RX7 25 "WrongWord" "gate" "LWrongWord$Gate;") ow_X7_ask_25) rfl dX7_ask_35 ?_
        refine km_get (ci := 2) (C := RX2) (T := TX2) (N := 8) (t := 6) (i := 0) hx hb hts fi_X7_ask_X2 hown hK hw (by decide) (by decide) rfl rfl 2 (by decide) (hts (.fieldLink RX7 209 "WrongWord$Gate" "fees" "[I") ow_X7_ask_209) rfl dX7_ask_38 ?_
        refine lv_iload_n hx hb dX7_ask_41 rfl (lv_at hl 1 rfl) ?_
        have hb8 : ¬ (a1 < 0 ∨ 4 ≤ Int32.toNatClampNeg a1) := fun q => hs (hF.trans (if_pos q))
        have hF := hF.trans (if_neg hb8)
        refine km_iald (t := 9) (i := 0) hx hb hK hw (by decide) (by decide) rfl hb8 dX7_ask_42 ?_
        refine lv_aload_n hx hb dX7_ask_43 rfl (lv_at hl 0 rfl) ?_
        refine km_get (ci := 7) (C := RX7) (T := TX7) (N := 9) (t := 0) (i := 0) hx hb hts fi_X7_ask_X7 hown hK hw (by decide) (by decide) rfl rfl 2 (by decide) (hts (.fieldLink RX7 25 "WrongWord" "gate" "LWrongWord$Gate;") ow_X7_ask_25) rfl dX7_ask_44 ?_
        refine km_get (ci := 2) (C := RX2) (T := TX2) (N := 8) (t := 6) (i := 0) hx hb hts fi_X7_ask_X2 hown hK hw (by decide) (by decide) rfl rfl 3 (by decide) (hts (.fieldLink RX7 137 "WrongWord$Gate" "now" "LWrongWord$Moment;") ow_X7_ask_137) rfl dX7_ask_47 ?_
        refine km_get (ci := 4) (C := RX4) (T := TX4) (N := 8) (t := 10) (i := 0) hx hb hts fi_X7_ask_X4 hown hK hw (by decide) (by decide) rfl rfl 0 (by decide) (hts (.fieldLink RX7 212 "WrongWord$Moment" "took" "[I") ow_X7_ask_212) rfl dX7_ask_50 ?_
        refine lv_iload_n hx hb dX7_ask_53 rfl (lv_at hl 1 rfl) ?_
        have hb9 : ¬ (a1 < 0 ∨ 4 ≤ Int32.toNatClampNeg a1) := fun q => hs (hF.trans (if_pos q))
        have hF := hF.trans (if_neg hb9)
        refine km_iald (t := 11) (i := 0) hx hb hK hw (by decide) (by decide) rfl hb9 dX7_ask_54 ?_
        have hs10 : g_X1_turnTo v a1 (v 8 0 (Int32.toNatClampNeg a1)) (v 9 0 (Int32.toNatClampNeg a1)) (v 11 0 (Int32.toNatClampNeg a1)) ≠ none := fun q => hs (hF.trans (kb_n q _))
        refine km_cV (As := [.int a1, .int (v 8 0 (Int32.toNatClampNeg a1)), .int (v 9 0 (Int32.toNatClampNeg a1)), .int (v 11 0 (Int32.toNatClampNeg a1))]) (rest := []) (n := 4) (q := (RX1, TX1, 6)) (ci := 1) (t := 21) (i := 0) ⟨hx, hb, hml, hown, hts⟩ (d_X1_turnTo l E Z v a1 (v 8 0 (Int32.toNatClampNeg a1)) (v 9 0 (Int32.toNatClampNeg a1)) (v 11 0 (Int32.toNatClampNeg a1)) hs10) gX7_ask_X1_turnTo rfl hV_X1_turnTo ⟨Nat.le_of_ble_eq_true rfl, Nat.le_of_ble_eq_true rfl⟩ hK hw (by decide) (by decide) rfl rfl rfl hl.1 rfl (Nat.le_of_ble_eq_true rfl) dX7_ask_55 rfl rfl (fun v12 H locs hp hw => ?_)
        have hF := hF.trans (kb_some hp _)
        refine lv_aload_n hx hb dX7_ask_58 rfl (lv_at hl 0 rfl) ?_
        refine km_get (ci := 7) (C := RX7) (T := TX7) (N := 9) (t := 0) (i := 0) hx hb hts fi_X7_ask_X7 hown hK hw (by decide) (by decide) rfl rfl 6 (by decide) (hts (.fieldLink RX7 50 "WrongWord" "asks" "LWrongWord$Asks;") ow_X7_ask_50) rfl dX7_ask_59 ?_
        refine lv_iload_n hx hb dX7_ask_62 rfl (lv_at hl 2 rfl) ?_
        have hs13 : g_X1_answer v12 a2 ≠ none := fun q => hs (hF.trans (kb2_n q _))
        refine km_cI (As := [.int a2]) (rest := []) (n := 1) (q := (RX1, TX1, 6)) (ci := 1) (t := 21) (i := 0) ⟨hx, hb, hml, hown, hts⟩ (d_X1_answer l E Z v12 a2 hs13) gX7_ask_X1_answer rfl hV_X1_answer ⟨Nat.le_of_ble_eq_true rfl, Nat.le_of_ble_eq_true rfl⟩ hK hw (by decide) (by decide) rfl rfl rfl hl.1 rfl (Nat.le_of_ble_eq_true rfl) dX7_ask_63 rfl rfl (fun r14 v15 H locs hp hw => ?_)
        have hF := hF.trans (kb2_some hp _)
        exact hret _ _ _ _ _ _ hw dX7_ask_66 hF
      · skip
        have hF := hF.trans (if_neg c6)
        refine lv_ldc (v := (-1000001)) hx hb hown (hts (.constant RX7 59 (-1000001)) ow_X7_ask_59) dX7_ask_17 ?_
        exact hret _ _ _ _ _ _ hw dX7_ask_19 hF
abbrev rmX7_trace : Room := { frames := 0, cells := 0, slots := 0, locals := 0 }
def g_X7_trace (v : Mm) (a1 : Int32) : Option (Int32) := if a1 < 0 then (some ((-1000000))) else (if a1 < v 21 0 1 then (if a1 < 0 ∨ 16 ≤ Int32.toNatClampNeg a1 then none else (some (v 22 0 (Int32.toNatClampNeg a1)))) else (some ((-1000000))))
set_option maxHeartbeats 4000000 in
set_option maxRecDepth 100000 in
theorem d_X7_trace (l : Launch) (E : kq_T) (Z : km_Z) (v : Mm) (a1 : Int32) (hs : g_X7_trace v a1 ≠ none) : km_I l E Z cntX yX7_trace wsX7_trace rmX7_trace [.ref (Z.1 0 0), .int a1] v (fun r v1 => g_X7_trace v a1 = some r ∧ v = v1) := by
  refine km_goI (cc := cX7_trace) (maxL := 2) (by decide) rfl (Nat.le_of_ble_eq_true rfl) rfl rfl rfl ?_
  intro p e s m below meth c A ls Q C hK hw hl hret
  obtain ⟨hx, hb, hml, hown, hts, -, -, -⟩ := C
  have hown : s.vm.findClass RX7 = some m.cls := hown
  have hl : lv_has ls 2 [(0, .ref (Z.1 0 0)), (1, .int a1)] := hl
  have hF := g_X7_trace.eq_1 v a1
  refine lv_iload_n hx hb dX7_trace_0 rfl (lv_at hl 1 rfl) ?_
  refine lv_if_lt (tgt := 15) hx hb dX7_trace_1 (by decide) (fun c1 => ?_) (fun c1 => ?_)
  · skip
    have hF := hF.trans (if_pos c1)
    refine lv_ldc (v := (-1000000)) hx hb hown (hts (.constant RX7 175 (-1000000)) ow_X7_trace_175) dX7_trace_15 ?_
    refine lv_goto (tgt := 29) hx hb dX7_trace_17 (by decide) ?_
    exact hret _ _ _ _ _ _ hw dX7_trace_29 ⟨hF, rfl⟩
  · skip
    have hF := hF.trans (if_neg c1)
    refine lv_iload_n hx hb dX7_trace_4 rfl (lv_at hl 1 rfl) ?_
    refine lv_aload_n hx hb dX7_trace_5 rfl (lv_at hl 0 rfl) ?_
    refine km_get (ci := 7) (C := RX7) (T := TX7) (N := 9) (t := 0) (i := 0) hx hb hts fi_X7_trace_X7 hown hK hw (by decide) (by decide) rfl rfl 6 (by decide) (hts (.fieldLink RX7 50 "WrongWord" "asks" "LWrongWord$Asks;") ow_X7_trace_50) rfl dX7_trace_6 ?_
    refine km_get (ci := 1) (C := RX1) (T := TX1) (N := 6) (t := 21) (i := 0) hx hb hts fi_X7_trace_X1 hown hK hw (by decide) (by decide) rfl rfl 1 (by decide) (hts (.fieldLink RX7 317 "WrongWord$Asks" "begun" "I") ow_X7_trace_317) rfl dX7_trace_9 ?_
    refine lv_icmp_lt (tgt := 20) hx hb dX7_trace_12 (by decide) (fun c2 => ?_) (fun c2 => ?_)
    · skip
      have hF := hF.trans (if_pos c2)
      refine lv_aload_n hx hb dX7_trace_20 rfl (lv_at hl 0 rfl) ?_
      refine km_get (ci := 7) (C := RX7) (T := TX7) (N := 9) (t := 0) (i := 0) hx hb hts fi_X7_trace_X7 hown hK hw (by decide) (by decide) rfl rfl 6 (by decide) (hts (.fieldLink RX7 50 "WrongWord" "asks" "LWrongWord$Asks;") ow_X7_trace_50) rfl dX7_trace_21 ?_
      refine km_get (ci := 1) (C := RX1) (T := TX1) (N := 6) (t := 21) (i := 0) hx hb hts fi_X7_trace_X1 hown hK hw (by decide) (by decide) rfl rfl 0 (by decide) (hts (.fieldLink RX7 320 "WrongWord$Asks" "bodies" "[I") ow_X7_trace_320) rfl dX7_trace_24 ?_
      refine lv_iload_n hx hb dX7_trace_27 rfl (lv_at hl 1 rfl) ?_
      have hb3 : ¬ (a1 < 0 ∨ 16 ≤ Int32.toNatClampNeg a1) := fun q => hs (hF.trans (if_pos q))
      have hF := hF.trans (if_neg hb3)
      refine km_iald (t := 22) (i := 0) hx hb hK hw (by decide) (by decide) rfl hb3 dX7_trace_28 ?_
      exact hret _ _ _ _ _ _ hw dX7_trace_29 ⟨hF, rfl⟩
    · skip
      have hF := hF.trans (if_neg c2)
      refine lv_ldc (v := (-1000000)) hx hb hown (hts (.constant RX7 175 (-1000000)) ow_X7_trace_175) dX7_trace_15 ?_
      refine lv_goto (tgt := 29) hx hb dX7_trace_17 (by decide) ?_
      exact hret _ _ _ _ _ _ hw dX7_trace_29 ⟨hF, rfl⟩
abbrev rmX7_rowsThere : Room := { frames := 0, cells := 0, slots := 0, locals := 0 }
def b_X7_rowsThere_L4  (rec4 : Int32 → Int32 → Option (Int32)) (v : Mm) (x1_4 : Int32) (x2_4 : Int32) : Option (Int32) := if 8 ≤ x2_4 then (some x1_4) else (if x2_4 < 0 ∨ 8 ≤ Int32.toNatClampNeg x2_4 then none else (if v 2 ((Int32.toNatClampNeg x2_4)) 1 = (-1) then (rec4 x1_4 (x2_4 + 1)) else (rec4 (x1_4 + 1) (x2_4 + 1))))
def g_X7_rowsThere_L4  (v : Mm) : Nat → Int32 → Int32 → Option (Int32)
  | 0 => fun _ _ => none
  | n + 1 => b_X7_rowsThere_L4  (g_X7_rowsThere_L4  v n) v
def g_X7_rowsThere (v : Mm)  : Option (Int32) := g_X7_rowsThere_L4  v 2000 0 0
set_option maxHeartbeats 4000000 in
set_option maxRecDepth 100000 in
theorem d_X7_rowsThere (l : Launch) (E : kq_T) (Z : km_Z) (v : Mm) (hs : g_X7_rowsThere v ≠ none) : km_I l E Z cntX yX7_rowsThere wsX7_rowsThere rmX7_rowsThere [.ref (Z.1 0 0)] v (fun r v1 => g_X7_rowsThere v = some r ∧ v = v1) := by
  refine km_goI (cc := cX7_rowsThere) (maxL := 3) (by decide) rfl (Nat.le_of_ble_eq_true rfl) rfl rfl rfl ?_
  intro p e s m below meth c A ls Q C hK hw hl hret
  obtain ⟨hx, hb, hml, hown, hts, -, -, -⟩ := C
  have hown : s.vm.findClass RX7 = some m.cls := hown
  have hl : lv_has ls 3 [(0, .ref (Z.1 0 0))] := hl
  have hF := g_X7_rowsThere.eq_1 v 
  have loop4 : ∀ (n4 : Nat) (x1_4 : Int32) (x2_4 : Int32) (H : Heap) (locs : List Loc) (ls : Array Slot), g_X7_rowsThere v = g_X7_rowsThere_L4  v n4 x1_4 x2_4 → km_w E A s.heap [] Z cntX v H locs → lv_has ls 3 [(0, .ref (Z.1 0 0)), (1, .int x1_4), (2, .int x2_4)] → W p l e rmX7_rowsThere s m [.ref (Z.1 0 0)].toArray below meth c H locs 0 0 Q (F0 m 4 ls []) := by
    intro n4
    induction n4 with
    | zero => intro x1_4 x2_4 H locs ls hF hw hl; exact absurd (show g_X7_rowsThere v = none from hF) hs
    | succ n4 ih4 =>
      intro x1_4 x2_4 H locs ls hF hw hl
      have hF := hF.trans (b_X7_rowsThere_L4.eq_1  (g_X7_rowsThere_L4  v n4) v x1_4 x2_4)
      refine lv_iload_n hx hb dX7_rowsThere_4 rfl (lv_at hl 2 rfl) ?_
      refine lv_bipush (v := 8) hx hb dX7_rowsThere_5 (by decide) ?_
      refine lv_icmp_ge (tgt := 32) hx hb dX7_rowsThere_7 (by decide) (fun c1 => ?_) (fun c1 => ?_)
      · skip
        have hF := hF.trans (if_pos c1)
        refine lv_iload_n hx hb dX7_rowsThere_32 rfl (lv_at hl 1 rfl) ?_
        exact hret _ _ _ _ _ _ hw dX7_rowsThere_33 ⟨hF, rfl⟩
      · skip
        have hF := hF.trans (if_neg c1)
        refine lv_aload_n hx hb dX7_rowsThere_10 rfl (lv_at hl 0 rfl) ?_
        refine km_get (ci := 7) (C := RX7) (T := TX7) (N := 9) (t := 0) (i := 0) hx hb hts fi_X7_rowsThere_X7 hown hK hw (by decide) (by decide) rfl rfl 0 (by decide) (hts (.fieldLink RX7 11 "WrongWord" "rows" "[LWrongWord$Row;") ow_X7_rowsThere_11) rfl dX7_rowsThere_11 ?_
        refine lv_iload_n hx hb dX7_rowsThere_14 rfl (lv_at hl 2 rfl) ?_
        have hb2 : ¬ (x2_4 < 0 ∨ 8 ≤ Int32.toNatClampNeg x2_4) := fun q => hs (hF.trans (if_pos q))
        have hF := hF.trans (if_neg hb2)
        refine km_rows hx hb hK hw (by decide) hb2 dX7_rowsThere_15 ?_
        refine km_get (ci := 5) (C := RX5) (T := TX5) (N := 3) (t := 2) (i := (Int32.toNatClampNeg x2_4)) hx hb hts fi_X7_rowsThere_X5 hown hK hw (by decide) (Nat.not_le.mp fun h9 => hb2 (Or.inr h9)) rfl rfl 1 (by decide) (hts (.fieldLink RX7 78 "WrongWord$Row" "lane" "I") ow_X7_rowsThere_78) rfl dX7_rowsThere_16 ?_
        refine lv_iconst (v := (-1)) hx hb dX7_rowsThere_19 (by decide) ?_
        refine lv_icmp_eq (tgt := 26) hx hb dX7_rowsThere_20 (by decide) (fun c3 => ?_) (fun c3 => ?_)
        · skip
          have hF := hF.trans (if_pos c3)
          refine lv_iinc (v := x2_4 + 1) (lv' := [(2, .int (x2_4 + 1)), (0, .ref (Z.1 0 0)), (1, .int x1_4)]) hx hb dX7_rowsThere_26 hl (k := 2) rfl rfl (by decide) rfl (fun ls hl => ?_)
          refine lv_goto (tgt := 4) hx hb dX7_rowsThere_29 (by decide) ?_
          have hl := lv_sub (l' := [(0, .ref (Z.1 0 0)), (1, .int x1_4), (2, .int (x2_4 + 1))]) hl [1, 2, 0] rfl
          exact ih4 x1_4 (x2_4 + 1) _ _ _ hF hw hl
        · skip
          have hF := hF.trans (if_neg c3)
          refine lv_iinc (v := x1_4 + 1) (lv' := [(1, .int (x1_4 + 1)), (0, .ref (Z.1 0 0)), (2, .int x2_4)]) hx hb dX7_rowsThere_23 hl (k := 1) rfl rfl (by decide) rfl (fun ls hl => ?_)
          refine lv_iinc (v := x2_4 + 1) (lv' := [(2, .int (x2_4 + 1)), (1, .int (x1_4 + 1)), (0, .ref (Z.1 0 0))]) hx hb dX7_rowsThere_26 hl (k := 2) rfl rfl (by decide) rfl (fun ls hl => ?_)
          refine lv_goto (tgt := 4) hx hb dX7_rowsThere_29 (by decide) ?_
          have hl := lv_sub (l' := [(0, .ref (Z.1 0 0)), (1, .int (x1_4 + 1)), (2, .int (x2_4 + 1))]) hl [2, 1, 0] rfl
          exact ih4 (x1_4 + 1) (x2_4 + 1) _ _ _ hF hw hl
  refine lv_iconst (v := 0) hx hb dX7_rowsThere_0 (by decide) ?_
  refine lv_istore_n (lv' := [(1, .int 0), (0, .ref (Z.1 0 0))]) hx hb dX7_rowsThere_1 rfl hl (by decide) rfl (fun ls hl => ?_)
  refine lv_iconst (v := 0) hx hb dX7_rowsThere_2 (by decide) ?_
  refine lv_istore_n (lv' := [(2, .int 0), (1, .int 0), (0, .ref (Z.1 0 0))]) hx hb dX7_rowsThere_3 rfl hl (by decide) rfl (fun ls hl => ?_)
  have hl := lv_sub (l' := [(0, .ref (Z.1 0 0)), (1, .int 0), (2, .int 0)]) hl [2, 1, 0] rfl
  exact loop4 2000 0 0 _ _ _ hF hw hl
abbrev rmX7_count : Room := { frames := 1, cells := 0, slots := 0, locals := 22 }
def g_X7_count (v : Mm) (a1 : Int32) : Option (Int32) := if a1 = 0 then (Option.bind (g_X7_rowsThere v) (fun r3 => some r3)) else (if a1 = 1 then (some (v 6 0 6)) else (if a1 = 2 then (some (v 6 0 7)) else (if a1 = 3 then (some (v 10 0 4)) else (if a1 = 4 then (some (v 10 0 7)) else (if a1 = 5 then (some (v 10 0 6)) else (if a1 = 6 then (some (v 15 0 2)) else (if a1 = 7 then (some (v 4 0 2)) else (if a1 = 8 then (some (v 10 0 5)) else (if a1 = 9 then (Option.bind (g_X4_tookInAll v 0) (fun r15 => some r15)) else (some ((-1000001))))))))))))
set_option maxHeartbeats 4000000 in
set_option maxRecDepth 100000 in
theorem d_X7_count (l : Launch) (E : kq_T) (Z : km_Z) (v : Mm) (a1 : Int32) (hs : g_X7_count v a1 ≠ none) : km_I l E Z cntX yX7_count wsX7_count rmX7_count [.ref (Z.1 0 0), .int a1] v (fun r v1 => g_X7_count v a1 = some r ∧ v = v1) := by
  refine km_goI (cc := cX7_count) (maxL := 2) (by decide) rfl (Nat.le_of_ble_eq_true rfl) rfl rfl rfl ?_
  intro p e s m below meth c A ls Q C hK hw hl hret
  obtain ⟨hx, hb, hml, hown, hts, -, -, -⟩ := C
  have hown : s.vm.findClass RX7 = some m.cls := hown
  have hl : lv_has ls 2 [(0, .ref (Z.1 0 0)), (1, .int a1)] := hl
  have hF := g_X7_count.eq_1 v a1
  refine lv_iload_n hx hb dX7_count_0 rfl (lv_at hl 1 rfl) ?_
  by_cases c1 : a1 = 0
  · skip
    have hF := hF.trans (if_pos c1)
    refine lv_tableIn (tgt := 56) (off := 55) hx hb dX7_count_1 (by rw [c1]; decide) (by rw [c1]; decide) (by rw [c1]; rfl) (by decide) ?_
    refine lv_aload_n hx hb dX7_count_56 rfl (lv_at hl 0 rfl) ?_
    have hs2 : g_X7_rowsThere v ≠ none := fun q => hs (hF.trans (kb_n q _))
    refine km_cI (As := []) (rest := []) (n := 0) (q := (RX7, TX7, 9)) (ci := 7) (t := 0) (i := 0) ⟨hx, hb, hml, hown, hts⟩ (d_X7_rowsThere l E Z v  hs2) gX7_count_X7_rowsThere rfl hV_X7_rowsThere ⟨Nat.le_of_ble_eq_true rfl, Nat.le_of_ble_eq_true rfl⟩ hK hw (by decide) (by decide) rfl rfl rfl hl.1 rfl (Nat.le_of_ble_eq_true rfl) dX7_count_57 rfl rfl (fun r3 v4 H locs hp hw => ?_)
    obtain ⟨hp, rfl⟩ := hp
    have hF := hF.trans (kb_some hp _)
    exact hret _ _ _ _ _ _ hw dX7_count_60 ⟨hF, rfl⟩
  have hF := hF.trans (if_neg c1)
  by_cases c5 : a1 = 1
  · skip
    have hF := hF.trans (if_pos c5)
    refine lv_tableIn (tgt := 61) (off := 60) hx hb dX7_count_1 (by rw [c5]; decide) (by rw [c5]; decide) (by rw [c5]; rfl) (by decide) ?_
    refine lv_aload_n hx hb dX7_count_61 rfl (lv_at hl 0 rfl) ?_
    refine km_get (ci := 7) (C := RX7) (T := TX7) (N := 9) (t := 0) (i := 0) hx hb hts fi_X7_count_X7 hown hK hw (by decide) (by decide) rfl rfl 2 (by decide) (hts (.fieldLink RX7 25 "WrongWord" "gate" "LWrongWord$Gate;") ow_X7_count_25) rfl dX7_count_62 ?_
    refine km_get (ci := 2) (C := RX2) (T := TX2) (N := 8) (t := 6) (i := 0) hx hb hts fi_X7_count_X2 hown hK hw (by decide) (by decide) rfl rfl 6 (by decide) (hts (.fieldLink RX7 130 "WrongWord$Gate" "words" "I") ow_X7_count_130) rfl dX7_count_65 ?_
    exact hret _ _ _ _ _ _ hw dX7_count_68 ⟨hF, rfl⟩
  have hF := hF.trans (if_neg c5)
  by_cases c6 : a1 = 2
  · skip
    have hF := hF.trans (if_pos c6)
    refine lv_tableIn (tgt := 69) (off := 68) hx hb dX7_count_1 (by rw [c6]; decide) (by rw [c6]; decide) (by rw [c6]; rfl) (by decide) ?_
    refine lv_aload_n hx hb dX7_count_69 rfl (lv_at hl 0 rfl) ?_
    refine km_get (ci := 7) (C := RX7) (T := TX7) (N := 9) (t := 0) (i := 0) hx hb hts fi_X7_count_X7 hown hK hw (by decide) (by decide) rfl rfl 2 (by decide) (hts (.fieldLink RX7 25 "WrongWord" "gate" "LWrongWord$Gate;") ow_X7_count_25) rfl dX7_count_70 ?_
    refine km_get (ci := 2) (C := RX2) (T := TX2) (N := 8) (t := 6) (i := 0) hx hb hts fi_X7_count_X2 hown hK hw (by decide) (by decide) rfl rfl 7 (by decide) (hts (.fieldLink RX7 327 "WrongWord$Gate" "guards" "I") ow_X7_count_327) rfl dX7_count_73 ?_
    exact hret _ _ _ _ _ _ hw dX7_count_76 ⟨hF, rfl⟩
  have hF := hF.trans (if_neg c6)
  by_cases c7 : a1 = 3
  · skip
    have hF := hF.trans (if_pos c7)
    refine lv_tableIn (tgt := 77) (off := 76) hx hb dX7_count_1 (by rw [c7]; decide) (by rw [c7]; decide) (by rw [c7]; rfl) (by decide) ?_
    refine lv_aload_n hx hb dX7_count_77 rfl (lv_at hl 0 rfl) ?_
    refine km_get (ci := 7) (C := RX7) (T := TX7) (N := 9) (t := 0) (i := 0) hx hb hts fi_X7_count_X7 hown hK hw (by decide) (by decide) rfl rfl 2 (by decide) (hts (.fieldLink RX7 25 "WrongWord" "gate" "LWrongWord$Gate;") ow_X7_count_25) rfl dX7_count_78 ?_
    refine km_get (ci := 2) (C := RX2) (T := TX2) (N := 8) (t := 6) (i := 0) hx hb hts fi_X7_count_X2 hown hK hw (by decide) (by decide) rfl rfl 3 (by decide) (hts (.fieldLink RX7 137 "WrongWord$Gate" "now" "LWrongWord$Moment;") ow_X7_count_137) rfl dX7_count_81 ?_
    refine km_get (ci := 4) (C := RX4) (T := TX4) (N := 8) (t := 10) (i := 0) hx hb hts fi_X7_count_X4 hown hK hw (by decide) (by decide) rfl rfl 4 (by decide) (hts (.fieldLink RX7 141 "WrongWord$Moment" "night" "I") ow_X7_count_141) rfl dX7_count_84 ?_
    exact hret _ _ _ _ _ _ hw dX7_count_87 ⟨hF, rfl⟩
  have hF := hF.trans (if_neg c7)
  by_cases c8 : a1 = 4
  · skip
    have hF := hF.trans (if_pos c8)
    refine lv_tableIn (tgt := 88) (off := 87) hx hb dX7_count_1 (by rw [c8]; decide) (by rw [c8]; decide) (by rw [c8]; rfl) (by decide) ?_
    refine lv_aload_n hx hb dX7_count_88 rfl (lv_at hl 0 rfl) ?_
    refine km_get (ci := 7) (C := RX7) (T := TX7) (N := 9) (t := 0) (i := 0) hx hb hts fi_X7_count_X7 hown hK hw (by decide) (by decide) rfl rfl 2 (by decide) (hts (.fieldLink RX7 25 "WrongWord" "gate" "LWrongWord$Gate;") ow_X7_count_25) rfl dX7_count_89 ?_
    refine km_get (ci := 2) (C := RX2) (T := TX2) (N := 8) (t := 6) (i := 0) hx hb hts fi_X7_count_X2 hown hK hw (by decide) (by decide) rfl rfl 3 (by decide) (hts (.fieldLink RX7 137 "WrongWord$Gate" "now" "LWrongWord$Moment;") ow_X7_count_137) rfl dX7_count_92 ?_
    refine km_get (ci := 4) (C := RX4) (T := TX4) (N := 8) (t := 10) (i := 0) hx hb hts fi_X7_count_X4 hown hK hw (by decide) (by decide) rfl rfl 7 (by decide) (hts (.fieldLink RX7 162 "WrongWord$Moment" "tries" "I") ow_X7_count_162) rfl dX7_count_95 ?_
    exact hret _ _ _ _ _ _ hw dX7_count_98 ⟨hF, rfl⟩
  have hF := hF.trans (if_neg c8)
  by_cases c9 : a1 = 5
  · skip
    have hF := hF.trans (if_pos c9)
    refine lv_tableIn (tgt := 99) (off := 98) hx hb dX7_count_1 (by rw [c9]; decide) (by rw [c9]; decide) (by rw [c9]; rfl) (by decide) ?_
    refine lv_aload_n hx hb dX7_count_99 rfl (lv_at hl 0 rfl) ?_
    refine km_get (ci := 7) (C := RX7) (T := TX7) (N := 9) (t := 0) (i := 0) hx hb hts fi_X7_count_X7 hown hK hw (by decide) (by decide) rfl rfl 2 (by decide) (hts (.fieldLink RX7 25 "WrongWord" "gate" "LWrongWord$Gate;") ow_X7_count_25) rfl dX7_count_100 ?_
    refine km_get (ci := 2) (C := RX2) (T := TX2) (N := 8) (t := 6) (i := 0) hx hb hts fi_X7_count_X2 hown hK hw (by decide) (by decide) rfl rfl 3 (by decide) (hts (.fieldLink RX7 137 "WrongWord$Gate" "now" "LWrongWord$Moment;") ow_X7_count_137) rfl dX7_count_103 ?_
    refine km_get (ci := 4) (C := RX4) (T := TX4) (N := 8) (t := 10) (i := 0) hx hb hts fi_X7_count_X4 hown hK hw (by decide) (by decide) rfl rfl 6 (by decide) (hts (.fieldLink RX7 190 "WrongWord$Moment" "there" "I") ow_X7_count_190) rfl dX7_count_106 ?_
    exact hret _ _ _ _ _ _ hw dX7_count_109 ⟨hF, rfl⟩
  have hF := hF.trans (if_neg c9)
  by_cases c10 : a1 = 6
  · skip
    have hF := hF.trans (if_pos c10)
    refine lv_tableIn (tgt := 110) (off := 109) hx hb dX7_count_1 (by rw [c10]; decide) (by rw [c10]; decide) (by rw [c10]; rfl) (by decide) ?_
    refine lv_aload_n hx hb dX7_count_110 rfl (lv_at hl 0 rfl) ?_
    refine km_get (ci := 7) (C := RX7) (T := TX7) (N := 9) (t := 0) (i := 0) hx hb hts fi_X7_count_X7 hown hK hw (by decide) (by decide) rfl rfl 3 (by decide) (hts (.fieldLink RX7 32 "WrongWord" "acts" "LWrongWord$Acts;") ow_X7_count_32) rfl dX7_count_111 ?_
    refine km_get (ci := 0) (C := RX0) (T := TX0) (N := 3) (t := 15) (i := 0) hx hb hts fi_X7_count_X0 hown hK hw (by decide) (by decide) rfl rfl 2 (by decide) (hts (.fieldLink RX7 197 "WrongWord$Acts" "kept" "I") ow_X7_count_197) rfl dX7_count_114 ?_
    exact hret _ _ _ _ _ _ hw dX7_count_117 ⟨hF, rfl⟩
  have hF := hF.trans (if_neg c10)
  by_cases c11 : a1 = 7
  · skip
    have hF := hF.trans (if_pos c11)
    refine lv_tableIn (tgt := 118) (off := 117) hx hb dX7_count_1 (by rw [c11]; decide) (by rw [c11]; decide) (by rw [c11]; rfl) (by decide) ?_
    refine lv_aload_n hx hb dX7_count_118 rfl (lv_at hl 0 rfl) ?_
    refine km_get (ci := 7) (C := RX7) (T := TX7) (N := 9) (t := 0) (i := 0) hx hb hts fi_X7_count_X7 hown hK hw (by decide) (by decide) rfl rfl 1 (by decide) (hts (.fieldLink RX7 18 "WrongWord" "tape" "LWrongWord$Tape;") ow_X7_count_18) rfl dX7_count_119 ?_
    refine km_get (ci := 6) (C := RX6) (T := TX6) (N := 7) (t := 4) (i := 0) hx hb hts fi_X7_count_X6 hown hK hw (by decide) (by decide) rfl rfl 2 (by decide) (hts (.fieldLink RX7 102 "WrongWord$Tape" "length" "I") ow_X7_count_102) rfl dX7_count_122 ?_
    exact hret _ _ _ _ _ _ hw dX7_count_125 ⟨hF, rfl⟩
  have hF := hF.trans (if_neg c11)
  by_cases c12 : a1 = 8
  · skip
    have hF := hF.trans (if_pos c12)
    refine lv_tableIn (tgt := 126) (off := 125) hx hb dX7_count_1 (by rw [c12]; decide) (by rw [c12]; decide) (by rw [c12]; rfl) (by decide) ?_
    refine lv_aload_n hx hb dX7_count_126 rfl (lv_at hl 0 rfl) ?_
    refine km_get (ci := 7) (C := RX7) (T := TX7) (N := 9) (t := 0) (i := 0) hx hb hts fi_X7_count_X7 hown hK hw (by decide) (by decide) rfl rfl 2 (by decide) (hts (.fieldLink RX7 25 "WrongWord" "gate" "LWrongWord$Gate;") ow_X7_count_25) rfl dX7_count_127 ?_
    refine km_get (ci := 2) (C := RX2) (T := TX2) (N := 8) (t := 6) (i := 0) hx hb hts fi_X7_count_X2 hown hK hw (by decide) (by decide) rfl rfl 3 (by decide) (hts (.fieldLink RX7 137 "WrongWord$Gate" "now" "LWrongWord$Moment;") ow_X7_count_137) rfl dX7_count_130 ?_
    refine km_get (ci := 4) (C := RX4) (T := TX4) (N := 8) (t := 10) (i := 0) hx hb hts fi_X7_count_X4 hown hK hw (by decide) (by decide) rfl rfl 5 (by decide) (hts (.fieldLink RX7 184 "WrongWord$Moment" "start" "I") ow_X7_count_184) rfl dX7_count_133 ?_
    exact hret _ _ _ _ _ _ hw dX7_count_136 ⟨hF, rfl⟩
  have hF := hF.trans (if_neg c12)
  by_cases c13 : a1 = 9
  · skip
    have hF := hF.trans (if_pos c13)
    refine lv_tableIn (tgt := 137) (off := 136) hx hb dX7_count_1 (by rw [c13]; decide) (by rw [c13]; decide) (by rw [c13]; rfl) (by decide) ?_
    refine lv_aload_n hx hb dX7_count_137 rfl (lv_at hl 0 rfl) ?_
    refine km_get (ci := 7) (C := RX7) (T := TX7) (N := 9) (t := 0) (i := 0) hx hb hts fi_X7_count_X7 hown hK hw (by decide) (by decide) rfl rfl 2 (by decide) (hts (.fieldLink RX7 25 "WrongWord" "gate" "LWrongWord$Gate;") ow_X7_count_25) rfl dX7_count_138 ?_
    refine km_get (ci := 2) (C := RX2) (T := TX2) (N := 8) (t := 6) (i := 0) hx hb hts fi_X7_count_X2 hown hK hw (by decide) (by decide) rfl rfl 3 (by decide) (hts (.fieldLink RX7 137 "WrongWord$Gate" "now" "LWrongWord$Moment;") ow_X7_count_137) rfl dX7_count_141 ?_
    have hs14 : g_X4_tookInAll v 0 ≠ none := fun q => hs (hF.trans (kb_n q _))
    refine km_cI (As := []) (rest := []) (n := 0) (q := (RX4, TX4, 8)) (ci := 4) (t := 10) (i := 0) ⟨hx, hb, hml, hown, hts⟩ (d_X4_tookInAll l E Z v 0 (by decide) hs14) gX7_count_X4_tookInAll rfl hV_X4_tookInAll ⟨Nat.le_of_ble_eq_true rfl, Nat.le_of_ble_eq_true rfl⟩ hK hw (by decide) (by decide) rfl rfl rfl hl.1 rfl (Nat.le_of_ble_eq_true rfl) dX7_count_144 rfl rfl (fun r15 v16 H locs hp hw => ?_)
    obtain ⟨hp, rfl⟩ := hp
    have hF := hF.trans (kb_some hp _)
    exact hret _ _ _ _ _ _ hw dX7_count_147 ⟨hF, rfl⟩
  have hF := hF.trans (if_neg c13)
  have nc1 : ¬ Int32.toInt a1 = 0 := fun q => c1 (Int32.toInt_inj.mp (q.trans (by decide)))
  have nc5 : ¬ Int32.toInt a1 = 1 := fun q => c5 (Int32.toInt_inj.mp (q.trans (by decide)))
  have nc6 : ¬ Int32.toInt a1 = 2 := fun q => c6 (Int32.toInt_inj.mp (q.trans (by decide)))
  have nc7 : ¬ Int32.toInt a1 = 3 := fun q => c7 (Int32.toInt_inj.mp (q.trans (by decide)))
  have nc8 : ¬ Int32.toInt a1 = 4 := fun q => c8 (Int32.toInt_inj.mp (q.trans (by decide)))
  have nc9 : ¬ Int32.toInt a1 = 5 := fun q => c9 (Int32.toInt_inj.mp (q.trans (by decide)))
  have nc10 : ¬ Int32.toInt a1 = 6 := fun q => c10 (Int32.toInt_inj.mp (q.trans (by decide)))
  have nc11 : ¬ Int32.toInt a1 = 7 := fun q => c11 (Int32.toInt_inj.mp (q.trans (by decide)))
  have nc12 : ¬ Int32.toInt a1 = 8 := fun q => c12 (Int32.toInt_inj.mp (q.trans (by decide)))
  have nc13 : ¬ Int32.toInt a1 = 9 := fun q => c13 (Int32.toInt_inj.mp (q.trans (by decide)))
  refine lv_tableOut (tgt := 148) hx hb dX7_count_1 (by omega) (by decide) ?_
  refine lv_ldc (v := (-1000001)) hx hb hown (hts (.constant RX7 59 (-1000001)) ow_X7_count_59) dX7_count_148 ?_
  exact hret _ _ _ _ _ _ hw dX7_count_150 ⟨hF, rfl⟩
abbrev rmX7_status : Room := { frames := 0, cells := 0, slots := 0, locals := 0 }
def g_X7_status (v : Mm)  : Option (Int32) := some (v 0 0 8)
set_option maxHeartbeats 4000000 in
set_option maxRecDepth 100000 in
theorem d_X7_status (l : Launch) (E : kq_T) (Z : km_Z) (v : Mm) (hs : g_X7_status v ≠ none) : km_I l E Z cntX yX7_status wsX7_status rmX7_status [.ref (Z.1 0 0)] v (fun r v1 => g_X7_status v = some r ∧ v = v1) := by
  refine km_goI (cc := cX7_status) (maxL := 1) (by decide) rfl (Nat.le_of_ble_eq_true rfl) rfl rfl rfl ?_
  intro p e s m below meth c A ls Q C hK hw hl hret
  obtain ⟨hx, hb, hml, hown, hts, -, -, -⟩ := C
  have hown : s.vm.findClass RX7 = some m.cls := hown
  have hl : lv_has ls 1 [(0, .ref (Z.1 0 0))] := hl
  have hF := g_X7_status.eq_1 v 
  refine lv_aload_n hx hb dX7_status_0 rfl (lv_at hl 0 rfl) ?_
  refine km_get (ci := 7) (C := RX7) (T := TX7) (N := 9) (t := 0) (i := 0) hx hb hts fi_X7_status_X7 hown hK hw (by decide) (by decide) rfl rfl 8 (by decide) (hts (.fieldLink RX7 333 "WrongWord" "latestFinding" "I") ow_X7_status_333) rfl dX7_status_1 ?_
  exact hret _ _ _ _ _ _ hw dX7_status_4 ⟨hF, rfl⟩
