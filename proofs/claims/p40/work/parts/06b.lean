abbrev rmX2_feeOf : Room := { frames := 0, cells := 0, slots := 0, locals := 0 }
def b_X2_feeOf_L4  (rec4 : Int32 → Int32 → Option (Int32)) (v : Mm) (i0 : Nat) (a1 : Int32) (x2_4 : Int32) (x3_4 : Int32) : Option (Int32) := if v 6 i0 7 ≤ x3_4 then (some x2_4) else (if x3_4 < 0 ∨ 4 ≤ Int32.toNatClampNeg x3_4 then none else (Option.bind (some (x2_4 + (((a1 >>> (x3_4 &&& 31)) &&& 1) * (v 9 i0 (Int32.toNatClampNeg x3_4))))) (fun x3 => rec4 x3 (x3_4 + 1))))
def g_X2_feeOf_L4  (v : Mm) (i0 : Nat) (a1 : Int32) : Nat → Int32 → Int32 → Option (Int32)
  | 0 => fun _ _ => none
  | n + 1 => b_X2_feeOf_L4  (g_X2_feeOf_L4  v i0 a1 n) v i0 a1
def g_X2_feeOf (v : Mm) (i0 : Nat) (a1 : Int32) : Option (Int32) := g_X2_feeOf_L4  v i0 a1 2000 0 0
set_option maxHeartbeats 4000000 in
set_option maxRecDepth 100000 in
theorem d_X2_feeOf (l : Launch) (E : kq_T) (Z : km_Z) (v : Mm) (i0 : Nat) (h_i0 : i0 < cntX 6) (a1 : Int32) (hs : g_X2_feeOf v i0 a1 ≠ none) : km_I l E Z cntX yX2_feeOf wsX2_feeOf rmX2_feeOf [.ref (Z.1 6 i0), .int a1] v (fun r v1 => g_X2_feeOf v i0 a1 = some r ∧ v = v1) := by
  refine km_goI (cc := cX2_feeOf) (maxL := 4) (by decide) rfl (Nat.le_of_ble_eq_true rfl) rfl rfl rfl ?_
  intro p e s m below meth c A ls Q C hK hw hl hret
  obtain ⟨hx, hb, hml, hown, hts, -, -, -⟩ := C
  have hown : s.vm.findClass RX2 = some m.cls := hown
  have hl : lv_has ls 4 [(0, .ref (Z.1 6 i0)), (1, .int a1)] := hl
  have hF := g_X2_feeOf.eq_1 v i0 a1
  have loop4 : ∀ (n4 : Nat) (x2_4 : Int32) (x3_4 : Int32) (H : Heap) (locs : List Loc) (ls : Array Slot), g_X2_feeOf v i0 a1 = g_X2_feeOf_L4  v i0 a1 n4 x2_4 x3_4 → km_w E A s.heap [] Z cntX v H locs → lv_has ls 4 [(0, .ref (Z.1 6 i0)), (1, .int a1), (2, .int x2_4), (3, .int x3_4)] → W p l e rmX2_feeOf s m [.ref (Z.1 6 i0), .int a1].toArray below meth c H locs 0 0 Q (F0 m 4 ls []) := by
    intro n4
    induction n4 with
    | zero => intro x2_4 x3_4 H locs ls hF hw hl; exact absurd (show g_X2_feeOf v i0 a1 = none from hF) hs
    | succ n4 ih4 =>
      intro x2_4 x3_4 H locs ls hF hw hl
      have hF := hF.trans (b_X2_feeOf_L4.eq_1  (g_X2_feeOf_L4  v i0 a1 n4) v i0 a1 x2_4 x3_4)
      refine lv_iload_n hx hb dX2_feeOf_4 rfl (lv_at hl 3 rfl) ?_
      refine lv_aload_n hx hb dX2_feeOf_5 rfl (lv_at hl 0 rfl) ?_
      refine km_get (ci := 2) (C := RX2) (T := TX2) (N := 8) (t := 6) (i := i0) hx hb hts fi_X2_feeOf_X2 hown hK hw (by decide) h_i0 rfl rfl 7 (by decide) (hts (.fieldLink RX2 48 "WrongWord$Gate" "guards" "I") ow_X2_feeOf_48) rfl dX2_feeOf_6 ?_
      refine lv_icmp_ge (tgt := 33) hx hb dX2_feeOf_9 (by decide) (fun c1 => ?_) (fun c1 => ?_)
      · skip
        have hF := hF.trans (if_pos c1)
        refine lv_iload_n hx hb dX2_feeOf_33 rfl (lv_at hl 2 rfl) ?_
        exact hret _ _ _ _ _ _ hw dX2_feeOf_34 ⟨hF, rfl⟩
      · skip
        have hF := hF.trans (if_neg c1)
        refine lv_iload_n hx hb dX2_feeOf_12 rfl (lv_at hl 2 rfl) ?_
        refine lv_iload_n hx hb dX2_feeOf_13 rfl (lv_at hl 1 rfl) ?_
        refine lv_iload_n hx hb dX2_feeOf_14 rfl (lv_at hl 3 rfl) ?_
        refine lv_ishr hx hb dX2_feeOf_15 ?_
        refine lv_iconst (v := 1) hx hb dX2_feeOf_16 (by decide) ?_
        refine lv_iand hx hb dX2_feeOf_17 ?_
        refine lv_aload_n hx hb dX2_feeOf_18 rfl (lv_at hl 0 rfl) ?_
        refine km_get (ci := 2) (C := RX2) (T := TX2) (N := 8) (t := 6) (i := i0) hx hb hts fi_X2_feeOf_X2 hown hK hw (by decide) h_i0 rfl rfl 2 (by decide) (hts (.fieldLink RX2 18 "WrongWord$Gate" "fees" "[I") ow_X2_feeOf_18) rfl dX2_feeOf_19 ?_
        refine lv_iload_n hx hb dX2_feeOf_22 rfl (lv_at hl 3 rfl) ?_
        have hb2 : ¬ (x3_4 < 0 ∨ 4 ≤ Int32.toNatClampNeg x3_4) := fun q => hs (hF.trans (if_pos q))
        have hF := hF.trans (if_neg hb2)
        refine km_iald (t := 9) (i := i0) hx hb hK hw (by decide) h_i0 rfl hb2 dX2_feeOf_23 ?_
        refine lv_imul hx hb dX2_feeOf_24 ?_
        refine lv_iadd hx hb dX2_feeOf_25 ?_
        refine lv_topi (fun x3 ex3 => ?_)
        have hF := hF.trans (kb_some (congrArg some ex3.symm) _)
        refine lv_istore_n (lv' := [(2, .int x3), (0, .ref (Z.1 6 i0)), (1, .int a1), (3, .int x3_4)]) hx hb dX2_feeOf_26 rfl hl (by decide) rfl (fun ls hl => ?_)
        refine lv_iinc (v := x3_4 + 1) (lv' := [(3, .int (x3_4 + 1)), (2, .int x3), (0, .ref (Z.1 6 i0)), (1, .int a1)]) hx hb dX2_feeOf_27 hl (k := 3) rfl rfl (by decide) rfl (fun ls hl => ?_)
        refine lv_goto (tgt := 4) hx hb dX2_feeOf_30 (by decide) ?_
        have hl := lv_sub (l' := [(0, .ref (Z.1 6 i0)), (1, .int a1), (2, .int x3), (3, .int (x3_4 + 1))]) hl [2, 3, 1, 0] rfl
        exact ih4 x3 (x3_4 + 1) _ _ _ hF hw hl
  refine lv_iconst (v := 0) hx hb dX2_feeOf_0 (by decide) ?_
  refine lv_istore_n (lv' := [(2, .int 0), (0, .ref (Z.1 6 i0)), (1, .int a1)]) hx hb dX2_feeOf_1 rfl hl (by decide) rfl (fun ls hl => ?_)
  refine lv_iconst (v := 0) hx hb dX2_feeOf_2 (by decide) ?_
  refine lv_istore_n (lv' := [(3, .int 0), (2, .int 0), (0, .ref (Z.1 6 i0)), (1, .int a1)]) hx hb dX2_feeOf_3 rfl hl (by decide) rfl (fun ls hl => ?_)
  have hl := lv_sub (l' := [(0, .ref (Z.1 6 i0)), (1, .int a1), (2, .int 0), (3, .int 0)]) hl [2, 3, 1, 0] rfl
  exact loop4 2000 0 0 _ _ _ hF hw hl
abbrev rmX2_nearestTo : Room := { frames := 1, cells := 0, slots := 0, locals := 24 }
def b_X2_nearestTo_L8  (rec8 : Int32 → Int32 → Int32 → Option (Int32)) (v : Mm) (i0 : Nat) (a1 : Int32) (x2_8 : Int32) (x3_8 : Int32) (x4_8 : Int32) : Option (Int32) := if v 6 i0 6 ≤ x4_8 then (some x2_8) else (if x4_8 = a1 then (rec8 x2_8 x3_8 (x4_8 + 1)) else (Option.bind (g_X2_distance v i0 a1 x4_8) (fun r4 => if x3_8 ≤ r4 then (rec8 x2_8 x3_8 (x4_8 + 1)) else (Option.bind (g_X2_distance v i0 a1 x4_8) (fun r8 => rec8 x4_8 r8 (x4_8 + 1))))))
def g_X2_nearestTo_L8  (v : Mm) (i0 : Nat) (a1 : Int32) : Nat → Int32 → Int32 → Int32 → Option (Int32)
  | 0 => fun _ _ _ => none
  | n + 1 => b_X2_nearestTo_L8  (g_X2_nearestTo_L8  v i0 a1 n) v i0 a1
def g_X2_nearestTo (v : Mm) (i0 : Nat) (a1 : Int32) : Option (Int32) := g_X2_nearestTo_L8  v i0 a1 2000 ((-1000000)) 4 0
set_option maxHeartbeats 4000000 in
set_option maxRecDepth 100000 in
theorem d_X2_nearestTo (l : Launch) (E : kq_T) (Z : km_Z) (v : Mm) (i0 : Nat) (h_i0 : i0 < cntX 6) (a1 : Int32) (hs : g_X2_nearestTo v i0 a1 ≠ none) : km_I l E Z cntX yX2_nearestTo wsX2_nearestTo rmX2_nearestTo [.ref (Z.1 6 i0), .int a1] v (fun r v1 => g_X2_nearestTo v i0 a1 = some r ∧ v = v1) := by
  refine km_goI (cc := cX2_nearestTo) (maxL := 5) (by decide) rfl (Nat.le_of_ble_eq_true rfl) rfl rfl rfl ?_
  intro p e s m below meth c A ls Q C hK hw hl hret
  obtain ⟨hx, hb, hml, hown, hts, -, -, -⟩ := C
  have hown : s.vm.findClass RX2 = some m.cls := hown
  have hl : lv_has ls 5 [(0, .ref (Z.1 6 i0)), (1, .int a1)] := hl
  have hF := g_X2_nearestTo.eq_1 v i0 a1
  have loop8 : ∀ (n8 : Nat) (x2_8 : Int32) (x3_8 : Int32) (x4_8 : Int32) (H : Heap) (locs : List Loc) (ls : Array Slot), g_X2_nearestTo v i0 a1 = g_X2_nearestTo_L8  v i0 a1 n8 x2_8 x3_8 x4_8 → km_w E A s.heap [] Z cntX v H locs → lv_has ls 5 [(0, .ref (Z.1 6 i0)), (1, .int a1), (2, .int x2_8), (3, .int x3_8), (4, .int x4_8)] → W p l e rmX2_nearestTo s m [.ref (Z.1 6 i0), .int a1].toArray below meth c H locs 0 0 Q (F0 m 8 ls []) := by
    intro n8
    induction n8 with
    | zero => intro x2_8 x3_8 x4_8 H locs ls hF hw hl; exact absurd (show g_X2_nearestTo v i0 a1 = none from hF) hs
    | succ n8 ih8 =>
      intro x2_8 x3_8 x4_8 H locs ls hF hw hl
      have hF := hF.trans (b_X2_nearestTo_L8.eq_1  (g_X2_nearestTo_L8  v i0 a1 n8) v i0 a1 x2_8 x3_8 x4_8)
      refine lv_iload hx hb dX2_nearestTo_8 (lv_at hl 4 rfl) ?_
      refine lv_aload_n hx hb dX2_nearestTo_10 rfl (lv_at hl 0 rfl) ?_
      refine km_get (ci := 2) (C := RX2) (T := TX2) (N := 8) (t := 6) (i := i0) hx hb hts fi_X2_nearestTo_X2 hown hK hw (by decide) h_i0 rfl rfl 6 (by decide) (hts (.fieldLink RX2 45 "WrongWord$Gate" "words" "I") ow_X2_nearestTo_45) rfl dX2_nearestTo_11 ?_
      refine lv_icmp_ge (tgt := 51) hx hb dX2_nearestTo_14 (by decide) (fun c1 => ?_) (fun c1 => ?_)
      · skip
        have hF := hF.trans (if_pos c1)
        refine lv_iload_n hx hb dX2_nearestTo_51 rfl (lv_at hl 2 rfl) ?_
        exact hret _ _ _ _ _ _ hw dX2_nearestTo_52 ⟨hF, rfl⟩
      · skip
        have hF := hF.trans (if_neg c1)
        refine lv_iload hx hb dX2_nearestTo_17 (lv_at hl 4 rfl) ?_
        refine lv_iload_n hx hb dX2_nearestTo_19 rfl (lv_at hl 1 rfl) ?_
        refine lv_icmp_eq (tgt := 45) hx hb dX2_nearestTo_20 (by decide) (fun c2 => ?_) (fun c2 => ?_)
        · skip
          have hF := hF.trans (if_pos c2)
          refine lv_iinc (v := x4_8 + 1) (lv' := [(4, .int (x4_8 + 1)), (0, .ref (Z.1 6 i0)), (1, .int a1), (2, .int x2_8), (3, .int x3_8)]) hx hb dX2_nearestTo_45 hl (k := 4) rfl rfl (by decide) rfl (fun ls hl => ?_)
          refine lv_goto (tgt := 8) hx hb dX2_nearestTo_48 (by decide) ?_
          have hl := lv_sub (l' := [(0, .ref (Z.1 6 i0)), (1, .int a1), (2, .int x2_8), (3, .int x3_8), (4, .int (x4_8 + 1))]) hl [1, 2, 3, 4, 0] rfl
          exact ih8 x2_8 x3_8 (x4_8 + 1) _ _ _ hF hw hl
        · skip
          have hF := hF.trans (if_neg c2)
          refine lv_aload_n hx hb dX2_nearestTo_23 rfl (lv_at hl 0 rfl) ?_
          refine lv_iload_n hx hb dX2_nearestTo_24 rfl (lv_at hl 1 rfl) ?_
          refine lv_iload hx hb dX2_nearestTo_25 (lv_at hl 4 rfl) ?_
          have hs3 : g_X2_distance v i0 a1 x4_8 ≠ none := fun q => hs (hF.trans (kb_n q _))
          refine km_cI (As := [.int a1, .int x4_8]) (rest := []) (n := 2) (q := (RX2, TX2, 8)) (ci := 2) (t := 6) (i := i0) ⟨hx, hb, hml, hown, hts⟩ (d_X2_distance l E Z v i0 h_i0 a1 x4_8 hs3) gX2_nearestTo_X2_distance rfl hV_X2_distance ⟨Nat.le_of_ble_eq_true rfl, Nat.le_of_ble_eq_true rfl⟩ hK hw (by decide) h_i0 rfl rfl rfl hl.1 rfl (Nat.le_of_ble_eq_true rfl) dX2_nearestTo_27 rfl rfl (fun r4 v5 H locs hp hw => ?_)
          obtain ⟨hp, rfl⟩ := hp
          have hF := hF.trans (kb_some hp _)
          refine lv_iload_n hx hb dX2_nearestTo_30 rfl (lv_at hl 3 rfl) ?_
          refine lv_icmp_ge (tgt := 45) hx hb dX2_nearestTo_31 (by decide) (fun c6 => ?_) (fun c6 => ?_)
          · skip
            have hF := hF.trans (if_pos c6)
            refine lv_iinc (v := x4_8 + 1) (lv' := [(4, .int (x4_8 + 1)), (0, .ref (Z.1 6 i0)), (1, .int a1), (2, .int x2_8), (3, .int x3_8)]) hx hb dX2_nearestTo_45 hl (k := 4) rfl rfl (by decide) rfl (fun ls hl => ?_)
            refine lv_goto (tgt := 8) hx hb dX2_nearestTo_48 (by decide) ?_
            have hl := lv_sub (l' := [(0, .ref (Z.1 6 i0)), (1, .int a1), (2, .int x2_8), (3, .int x3_8), (4, .int (x4_8 + 1))]) hl [1, 2, 3, 4, 0] rfl
            exact ih8 x2_8 x3_8 (x4_8 + 1) _ _ _ hF hw hl
          · skip
            have hF := hF.trans (if_neg c6)
            refine lv_iload hx hb dX2_nearestTo_34 (lv_at hl 4 rfl) ?_
            refine lv_istore_n (lv' := [(2, .int x4_8), (0, .ref (Z.1 6 i0)), (1, .int a1), (3, .int x3_8), (4, .int x4_8)]) hx hb dX2_nearestTo_36 rfl hl (by decide) rfl (fun ls hl => ?_)
            refine lv_aload_n hx hb dX2_nearestTo_37 rfl (lv_at hl 1 rfl) ?_
            refine lv_iload_n hx hb dX2_nearestTo_38 rfl (lv_at hl 2 rfl) ?_
            refine lv_iload hx hb dX2_nearestTo_39 (lv_at hl 4 rfl) ?_
            have hs7 : g_X2_distance v i0 a1 x4_8 ≠ none := fun q => hs (hF.trans (kb_n q _))
            refine km_cI (As := [.int a1, .int x4_8]) (rest := []) (n := 2) (q := (RX2, TX2, 8)) (ci := 2) (t := 6) (i := i0) ⟨hx, hb, hml, hown, hts⟩ (d_X2_distance l E Z v i0 h_i0 a1 x4_8 hs7) gX2_nearestTo_X2_distance rfl hV_X2_distance ⟨Nat.le_of_ble_eq_true rfl, Nat.le_of_ble_eq_true rfl⟩ hK hw (by decide) h_i0 rfl rfl rfl hl.1 rfl (Nat.le_of_ble_eq_true rfl) dX2_nearestTo_41 rfl rfl (fun r8 v9 H locs hp hw => ?_)
            obtain ⟨hp, rfl⟩ := hp
            have hF := hF.trans (kb_some hp _)
            refine lv_istore_n (lv' := [(3, .int r8), (2, .int x4_8), (0, .ref (Z.1 6 i0)), (1, .int a1), (4, .int x4_8)]) hx hb dX2_nearestTo_44 rfl hl (by decide) rfl (fun ls hl => ?_)
            refine lv_iinc (v := x4_8 + 1) (lv' := [(4, .int (x4_8 + 1)), (3, .int r8), (2, .int x4_8), (0, .ref (Z.1 6 i0)), (1, .int a1)]) hx hb dX2_nearestTo_45 hl (k := 4) rfl rfl (by decide) rfl (fun ls hl => ?_)
            refine lv_goto (tgt := 8) hx hb dX2_nearestTo_48 (by decide) ?_
            have hl := lv_sub (l' := [(0, .ref (Z.1 6 i0)), (1, .int a1), (2, .int x4_8), (3, .int r8), (4, .int (x4_8 + 1))]) hl [3, 4, 2, 1, 0] rfl
            exact ih8 x4_8 r8 (x4_8 + 1) _ _ _ hF hw hl
  refine lv_ldc (v := (-1000000)) hx hb hown (hts (.constant RX2 103 (-1000000)) ow_X2_nearestTo_103) dX2_nearestTo_0 ?_
  refine lv_istore_n (lv' := [(2, .int ((-1000000))), (0, .ref (Z.1 6 i0)), (1, .int a1)]) hx hb dX2_nearestTo_2 rfl hl (by decide) rfl (fun ls hl => ?_)
  refine lv_iconst (v := 4) hx hb dX2_nearestTo_3 (by decide) ?_
  refine lv_istore_n (lv' := [(3, .int 4), (2, .int ((-1000000))), (0, .ref (Z.1 6 i0)), (1, .int a1)]) hx hb dX2_nearestTo_4 rfl hl (by decide) rfl (fun ls hl => ?_)
  refine lv_iconst (v := 0) hx hb dX2_nearestTo_5 (by decide) ?_
  refine lv_istore (lv' := [(4, .int 0), (3, .int 4), (2, .int ((-1000000))), (0, .ref (Z.1 6 i0)), (1, .int a1)]) hx hb dX2_nearestTo_6 hl (by decide) rfl (fun ls hl => ?_)
  have hl := lv_sub (l' := [(0, .ref (Z.1 6 i0)), (1, .int a1), (2, .int ((-1000000))), (3, .int 4), (4, .int 0)]) hl [3, 4, 2, 1, 0] rfl
  exact loop8 2000 ((-1000000)) 4 0 _ _ _ hF hw hl
abbrev rmX3_agreesWithTries : Room := { frames := 2, cells := 0, slots := 0, locals := 48 }
def b_X3_agreesWithTries_L7  (rec7 : Int32 → Option (Int32)) (v : Mm) (i0 : Nat) (a1 : Int32) (x3_7 : Int32) : Option (Int32) := if v 10 i0 7 ≤ x3_7 then (some 1) else (if x3_7 < 0 ∨ 9 ≤ Int32.toNatClampNeg x3_7 then none else (if v 13 i0 (Int32.toNatClampNeg x3_7) < 0 then (Option.bind (g_X7_bit v 0) (fun r5 => if x3_7 < 0 ∨ 9 ≤ Int32.toNatClampNeg x3_7 then none else (if r5 = v 14 i0 (Int32.toNatClampNeg x3_7) then (rec7 (x3_7 + 1)) else (some 0)))) else (if v 6 i0 7 ≤ v 13 i0 (Int32.toNatClampNeg x3_7) then (Option.bind (g_X7_bit v 0) (fun r11 => if x3_7 < 0 ∨ 9 ≤ Int32.toNatClampNeg x3_7 then none else (if r11 = v 14 i0 (Int32.toNatClampNeg x3_7) then (rec7 (x3_7 + 1)) else (some 0)))) else (if v 13 i0 (Int32.toNatClampNeg x3_7) < 0 ∨ 4 ≤ Int32.toNatClampNeg (v 13 i0 (Int32.toNatClampNeg x3_7)) then none else (if x3_7 < 0 ∨ 9 ≤ Int32.toNatClampNeg x3_7 then none else (Option.bind (g_X2_wouldTake v i0 (v 8 i0 (Int32.toNatClampNeg (v 13 i0 (Int32.toNatClampNeg x3_7)))) (v 12 i0 (Int32.toNatClampNeg x3_7)) a1 (v 10 i0 4)) (fun r18 => if r18 = 0 then (Option.bind (g_X7_bit v 0) (fun r22 => if x3_7 < 0 ∨ 9 ≤ Int32.toNatClampNeg x3_7 then none else (if r22 = v 14 i0 (Int32.toNatClampNeg x3_7) then (rec7 (x3_7 + 1)) else (some 0)))) else (Option.bind (g_X7_bit v 1) (fun r27 => if x3_7 < 0 ∨ 9 ≤ Int32.toNatClampNeg x3_7 then none else (if r27 = v 14 i0 (Int32.toNatClampNeg x3_7) then (rec7 (x3_7 + 1)) else (some 0)))))))))))
def g_X3_agreesWithTries_L7  (v : Mm) (i0 : Nat) (a1 : Int32) : Nat → Int32 → Option (Int32)
  | 0 => fun _ => none
  | n + 1 => b_X3_agreesWithTries_L7  (g_X3_agreesWithTries_L7  v i0 a1 n) v i0 a1
def g_X3_agreesWithTries (v : Mm) (i0 : Nat) (a1 : Int32) : Option (Int32) := g_X3_agreesWithTries_L7  v i0 a1 2000 0
set_option maxHeartbeats 4000000 in
set_option maxRecDepth 100000 in
theorem d_X3_agreesWithTries (l : Launch) (E : kq_T) (Z : km_Z) (v : Mm) (i0 : Nat) (h_i0 : i0 < cntX 6) (a1 : Int32) (hs : g_X3_agreesWithTries v i0 a1 ≠ none) : km_I l E Z cntX yX3_agreesWithTries wsX3_agreesWithTries rmX3_agreesWithTries [.ref (Z.1 6 i0), .int a1] v (fun r v1 => (g_X3_agreesWithTries v i0 a1 = some r ∧ v = v1) ∧ (r = 0 ∨ r = 1)) := by
  refine km_goZ (cc := cX3_agreesWithTries) (maxL := 6) (post := fun r v1 => g_X3_agreesWithTries v i0 a1 = some r ∧ v = v1) (by decide) rfl (Nat.le_of_ble_eq_true rfl) rfl rfl rfl ?_
  intro p e s m below meth c A ls Q C hK hw hl hret
  obtain ⟨hx, hb, hml, hown, hts, -, -, -⟩ := C
  have hown : s.vm.findClass RX3 = some m.cls := hown
  have hl : lv_has ls 6 [(0, .ref (Z.1 6 i0)), (1, .int a1)] := hl
  have hF := g_X3_agreesWithTries.eq_1 v i0 a1
  have loop7 : ∀ (n7 : Nat) (x3_7 : Int32) (H : Heap) (locs : List Loc) (ls : Array Slot), g_X3_agreesWithTries v i0 a1 = g_X3_agreesWithTries_L7  v i0 a1 n7 x3_7 → km_w E A s.heap [] Z cntX v H locs → lv_has ls 6 [(0, .ref (Z.1 6 i0)), (1, .int a1), (2, .ref (Z.1 10 i0)), (3, .int x3_7)] → W p l e rmX3_agreesWithTries s m [.ref (Z.1 6 i0), .int a1].toArray below meth c H locs 0 0 Q (F0 m 7 ls []) := by
    intro n7
    induction n7 with
    | zero => intro x3_7 H locs ls hF hw hl; exact absurd (show g_X3_agreesWithTries v i0 a1 = none from hF) hs
    | succ n7 ih7 =>
      intro x3_7 H locs ls hF hw hl
      have hF := hF.trans (b_X3_agreesWithTries_L7.eq_1  (g_X3_agreesWithTries_L7  v i0 a1 n7) v i0 a1 x3_7)
      refine lv_iload_n hx hb dX3_agreesWithTries_7 rfl (lv_at hl 3 rfl) ?_
      refine lv_aload_n hx hb dX3_agreesWithTries_8 rfl (lv_at hl 2 rfl) ?_
      refine km_get (ci := 4) (C := RX4) (T := TX4) (N := 8) (t := 10) (i := i0) hx hb hts fi_X3_agreesWithTries_X4 hown hK hw (by decide) (Nat.lt_of_lt_of_le (show i0 < cntX 6 from h_i0) (by decide)) rfl rfl 7 (by decide) (hts (.fieldLink RX3 36 "WrongWord$Moment" "tries" "I") ow_X3_agreesWithTries_36) rfl dX3_agreesWithTries_9 ?_
      refine lv_icmp_ge (tgt := 91) hx hb dX3_agreesWithTries_12 (by decide) (fun c1 => ?_) (fun c1 => ?_)
      · skip
        have hF := hF.trans (if_pos c1)
        refine lv_iconst (v := 1) hx hb dX3_agreesWithTries_91 (by decide) ?_
        exact hret _ _ _ _ _ _ hw dX3_agreesWithTries_92 (Or.inr rfl) ⟨hF, rfl⟩
      · skip
        have hF := hF.trans (if_neg c1)
        refine lv_aload_n hx hb dX3_agreesWithTries_15 rfl (lv_at hl 2 rfl) ?_
        refine km_get (ci := 4) (C := RX4) (T := TX4) (N := 8) (t := 10) (i := i0) hx hb hts fi_X3_agreesWithTries_X4 hown hK hw (by decide) (Nat.lt_of_lt_of_le (show i0 < cntX 6 from h_i0) (by decide)) rfl rfl 2 (by decide) (hts (.fieldLink RX3 41 "WrongWord$Moment" "triedGuard" "[I") ow_X3_agreesWithTries_41) rfl dX3_agreesWithTries_16 ?_
        refine lv_iload_n hx hb dX3_agreesWithTries_19 rfl (lv_at hl 3 rfl) ?_
        have hb2 : ¬ (x3_7 < 0 ∨ 9 ≤ Int32.toNatClampNeg x3_7) := fun q => hs (hF.trans (if_pos q))
        have hF := hF.trans (if_neg hb2)
        refine km_iald (t := 13) (i := i0) hx hb hK hw (by decide) (Nat.lt_of_lt_of_le (show i0 < cntX 6 from h_i0) (by decide)) rfl hb2 dX3_agreesWithTries_20 ?_
        refine lv_istore (lv' := [(4, .int (v 13 i0 (Int32.toNatClampNeg x3_7))), (0, .ref (Z.1 6 i0)), (1, .int a1), (2, .ref (Z.1 10 i0)), (3, .int x3_7)]) hx hb dX3_agreesWithTries_21 hl (by decide) rfl (fun ls hl => ?_)
        refine lv_iload hx hb dX3_agreesWithTries_23 (lv_at hl 0 rfl) ?_
        refine lv_if_lt (tgt := 66) hx hb dX3_agreesWithTries_25 (by decide) (fun c3 => ?_) (fun c3 => ?_)
        · skip
          have hF := hF.trans (if_pos c3)
          refine lv_iconst (v := 0) hx hb dX3_agreesWithTries_66 (by decide) ?_
          refine lv_istore (lv' := [(5, .int 0), (4, .int (v 13 i0 (Int32.toNatClampNeg x3_7))), (0, .ref (Z.1 6 i0)), (1, .int a1), (2, .ref (Z.1 10 i0)), (3, .int x3_7)]) hx hb dX3_agreesWithTries_67 hl (by decide) rfl (fun ls hl => ?_)
          refine lv_iload hx hb dX3_agreesWithTries_69 (lv_at hl 0 rfl) ?_
          have hs4 : g_X7_bit v 0 ≠ none := fun q => hs (hF.trans (kb_n q _))
          refine km_cSN (As := [.int 0]) (rest := []) (n := 1) ⟨hx, hb, hml, hown, hts⟩ (d_X7_bit l E Z v 0 hs4) gX3_agreesWithTries_X7_bit_n28 rfl (hts (.initialized RX7) (by decide +kernel)) (by decide +kernel) (hts (.static yX7_bit) (by decide +kernel)) (by decide +kernel) ⟨Nat.le_of_ble_eq_true rfl, Nat.le_of_ble_eq_true rfl⟩ hK hw rfl hl.1 rfl (Nat.le_of_ble_eq_true rfl) dX3_agreesWithTries_71 rfl rfl (fun r5 v6 H locs hp hw => ?_)
          obtain ⟨hp, rfl⟩ := hp
          have hF := hF.trans (kb_some hp _)
          refine lv_aload_n hx hb dX3_agreesWithTries_74 rfl (lv_at hl 4 rfl) ?_
          refine km_get (ci := 4) (C := RX4) (T := TX4) (N := 8) (t := 10) (i := i0) hx hb hts fi_X3_agreesWithTries_X4 hown hK hw (by decide) (Nat.lt_of_lt_of_le (show i0 < cntX 6 from h_i0) (by decide)) rfl rfl 3 (by decide) (hts (.fieldLink RX3 60 "WrongWord$Moment" "triedTaken" "[I") ow_X3_agreesWithTries_60) rfl dX3_agreesWithTries_75 ?_
          refine lv_iload_n hx hb dX3_agreesWithTries_78 rfl (lv_at hl 5 rfl) ?_
          have hb7 : ¬ (x3_7 < 0 ∨ 9 ≤ Int32.toNatClampNeg x3_7) := fun q => hs (hF.trans (if_pos q))
          have hF := hF.trans (if_neg hb7)
          refine km_iald (t := 14) (i := i0) hx hb hK hw (by decide) (Nat.lt_of_lt_of_le (show i0 < cntX 6 from h_i0) (by decide)) rfl hb7 dX3_agreesWithTries_79 ?_
          refine lv_icmp_eq (tgt := 85) hx hb dX3_agreesWithTries_80 (by decide) (fun c8 => ?_) (fun c8 => ?_)
          · skip
            have hF := hF.trans (if_pos c8)
            refine lv_iinc (v := x3_7 + 1) (lv' := [(3, .int (x3_7 + 1)), (5, .int 0), (4, .int (v 13 i0 (Int32.toNatClampNeg x3_7))), (0, .ref (Z.1 6 i0)), (1, .int a1), (2, .ref (Z.1 10 i0))]) hx hb dX3_agreesWithTries_85 hl (k := 5) rfl rfl (by decide) rfl (fun ls hl => ?_)
            refine lv_goto (tgt := 7) hx hb dX3_agreesWithTries_88 (by decide) ?_
            have hl := lv_sub (l' := [(0, .ref (Z.1 6 i0)), (1, .int a1), (2, .ref (Z.1 10 i0)), (3, .int (x3_7 + 1))]) hl [3, 4, 5, 0] rfl
            exact ih7 (x3_7 + 1) _ _ _ hF hw hl
          · skip
            have hF := hF.trans (if_neg c8)
            refine lv_iconst (v := 0) hx hb dX3_agreesWithTries_83 (by decide) ?_
            exact hret _ _ _ _ _ _ hw dX3_agreesWithTries_84 (Or.inl rfl) ⟨hF, rfl⟩
        · skip
          have hF := hF.trans (if_neg c3)
          refine lv_iload hx hb dX3_agreesWithTries_28 (lv_at hl 0 rfl) ?_
          refine lv_aload_n hx hb dX3_agreesWithTries_30 rfl (lv_at hl 1 rfl) ?_
          refine km_get (ci := 2) (C := RX2) (T := TX2) (N := 8) (t := 6) (i := i0) hx hb hts fi_X3_agreesWithTries_X2 hown hK hw (by decide) h_i0 rfl rfl 7 (by decide) (hts (.fieldLink RX3 44 "WrongWord$Gate" "guards" "I") ow_X3_agreesWithTries_44) rfl dX3_agreesWithTries_31 ?_
          refine lv_icmp_ge (tgt := 66) hx hb dX3_agreesWithTries_34 (by decide) (fun c9 => ?_) (fun c9 => ?_)
          · skip
            have hF := hF.trans (if_pos c9)
            refine lv_iconst (v := 0) hx hb dX3_agreesWithTries_66 (by decide) ?_
            refine lv_istore (lv' := [(5, .int 0), (4, .int (v 13 i0 (Int32.toNatClampNeg x3_7))), (0, .ref (Z.1 6 i0)), (1, .int a1), (2, .ref (Z.1 10 i0)), (3, .int x3_7)]) hx hb dX3_agreesWithTries_67 hl (by decide) rfl (fun ls hl => ?_)
            refine lv_iload hx hb dX3_agreesWithTries_69 (lv_at hl 0 rfl) ?_
            have hs10 : g_X7_bit v 0 ≠ none := fun q => hs (hF.trans (kb_n q _))
            refine km_cSN (As := [.int 0]) (rest := []) (n := 1) ⟨hx, hb, hml, hown, hts⟩ (d_X7_bit l E Z v 0 hs10) gX3_agreesWithTries_X7_bit_n28 rfl (hts (.initialized RX7) (by decide +kernel)) (by decide +kernel) (hts (.static yX7_bit) (by decide +kernel)) (by decide +kernel) ⟨Nat.le_of_ble_eq_true rfl, Nat.le_of_ble_eq_true rfl⟩ hK hw rfl hl.1 rfl (Nat.le_of_ble_eq_true rfl) dX3_agreesWithTries_71 rfl rfl (fun r11 v12 H locs hp hw => ?_)
            obtain ⟨hp, rfl⟩ := hp
            have hF := hF.trans (kb_some hp _)
            refine lv_aload_n hx hb dX3_agreesWithTries_74 rfl (lv_at hl 4 rfl) ?_
            refine km_get (ci := 4) (C := RX4) (T := TX4) (N := 8) (t := 10) (i := i0) hx hb hts fi_X3_agreesWithTries_X4 hown hK hw (by decide) (Nat.lt_of_lt_of_le (show i0 < cntX 6 from h_i0) (by decide)) rfl rfl 3 (by decide) (hts (.fieldLink RX3 60 "WrongWord$Moment" "triedTaken" "[I") ow_X3_agreesWithTries_60) rfl dX3_agreesWithTries_75 ?_
            refine lv_iload_n hx hb dX3_agreesWithTries_78 rfl (lv_at hl 5 rfl) ?_
            have hb13 : ¬ (x3_7 < 0 ∨ 9 ≤ Int32.toNatClampNeg x3_7) := fun q => hs (hF.trans (if_pos q))
            have hF := hF.trans (if_neg hb13)
            refine km_iald (t := 14) (i := i0) hx hb hK hw (by decide) (Nat.lt_of_lt_of_le (show i0 < cntX 6 from h_i0) (by decide)) rfl hb13 dX3_agreesWithTries_79 ?_
            refine lv_icmp_eq (tgt := 85) hx hb dX3_agreesWithTries_80 (by decide) (fun c14 => ?_) (fun c14 => ?_)
            · skip
              have hF := hF.trans (if_pos c14)
              refine lv_iinc (v := x3_7 + 1) (lv' := [(3, .int (x3_7 + 1)), (5, .int 0), (4, .int (v 13 i0 (Int32.toNatClampNeg x3_7))), (0, .ref (Z.1 6 i0)), (1, .int a1), (2, .ref (Z.1 10 i0))]) hx hb dX3_agreesWithTries_85 hl (k := 5) rfl rfl (by decide) rfl (fun ls hl => ?_)
              refine lv_goto (tgt := 7) hx hb dX3_agreesWithTries_88 (by decide) ?_
              have hl := lv_sub (l' := [(0, .ref (Z.1 6 i0)), (1, .int a1), (2, .ref (Z.1 10 i0)), (3, .int (x3_7 + 1))]) hl [3, 4, 5, 0] rfl
              exact ih7 (x3_7 + 1) _ _ _ hF hw hl
            · skip
              have hF := hF.trans (if_neg c14)
              refine lv_iconst (v := 0) hx hb dX3_agreesWithTries_83 (by decide) ?_
              exact hret _ _ _ _ _ _ hw dX3_agreesWithTries_84 (Or.inl rfl) ⟨hF, rfl⟩
          · skip
            have hF := hF.trans (if_neg c9)
            refine lv_aload_n hx hb dX3_agreesWithTries_37 rfl (lv_at hl 1 rfl) ?_
            refine lv_aload_n hx hb dX3_agreesWithTries_38 rfl (lv_at hl 1 rfl) ?_
            refine km_get (ci := 2) (C := RX2) (T := TX2) (N := 8) (t := 6) (i := i0) hx hb hts fi_X3_agreesWithTries_X2 hown hK hw (by decide) h_i0 rfl rfl 1 (by decide) (hts (.fieldLink RX3 47 "WrongWord$Gate" "kinds" "[I") ow_X3_agreesWithTries_47) rfl dX3_agreesWithTries_39 ?_
            refine lv_iload hx hb dX3_agreesWithTries_42 (lv_at hl 0 rfl) ?_
            have hb15 : ¬ (v 13 i0 (Int32.toNatClampNeg x3_7) < 0 ∨ 4 ≤ Int32.toNatClampNeg (v 13 i0 (Int32.toNatClampNeg x3_7))) := fun q => hs (hF.trans (if_pos q))
            have hF := hF.trans (if_neg hb15)
            refine km_iald (t := 8) (i := i0) hx hb hK hw (by decide) h_i0 rfl hb15 dX3_agreesWithTries_44 ?_
            refine lv_aload_n hx hb dX3_agreesWithTries_45 rfl (lv_at hl 3 rfl) ?_
            refine km_get (ci := 4) (C := RX4) (T := TX4) (N := 8) (t := 10) (i := i0) hx hb hts fi_X3_agreesWithTries_X4 hown hK hw (by decide) (Nat.lt_of_lt_of_le (show i0 < cntX 6 from h_i0) (by decide)) rfl rfl 1 (by decide) (hts (.fieldLink RX3 50 "WrongWord$Moment" "triedWord" "[I") ow_X3_agreesWithTries_50) rfl dX3_agreesWithTries_46 ?_
            refine lv_iload_n hx hb dX3_agreesWithTries_49 rfl (lv_at hl 4 rfl) ?_
            have hb16 : ¬ (x3_7 < 0 ∨ 9 ≤ Int32.toNatClampNeg x3_7) := fun q => hs (hF.trans (if_pos q))
            have hF := hF.trans (if_neg hb16)
            refine km_iald (t := 12) (i := i0) hx hb hK hw (by decide) (Nat.lt_of_lt_of_le (show i0 < cntX 6 from h_i0) (by decide)) rfl hb16 dX3_agreesWithTries_50 ?_
            refine lv_iload_n hx hb dX3_agreesWithTries_51 rfl (lv_at hl 2 rfl) ?_
            refine lv_aload_n hx hb dX3_agreesWithTries_52 rfl (lv_at hl 3 rfl) ?_
            refine km_get (ci := 4) (C := RX4) (T := TX4) (N := 8) (t := 10) (i := i0) hx hb hts fi_X3_agreesWithTries_X4 hown hK hw (by decide) (Nat.lt_of_lt_of_le (show i0 < cntX 6 from h_i0) (by decide)) rfl rfl 4 (by decide) (hts (.fieldLink RX3 53 "WrongWord$Moment" "night" "I") ow_X3_agreesWithTries_53) rfl dX3_agreesWithTries_53 ?_
            have hs17 : g_X2_wouldTake v i0 (v 8 i0 (Int32.toNatClampNeg (v 13 i0 (Int32.toNatClampNeg x3_7)))) (v 12 i0 (Int32.toNatClampNeg x3_7)) a1 (v 10 i0 4) ≠ none := fun q => hs (hF.trans (kb_n q _))
            refine km_cI (As := [.int (v 8 i0 (Int32.toNatClampNeg (v 13 i0 (Int32.toNatClampNeg x3_7)))), .int (v 12 i0 (Int32.toNatClampNeg x3_7)), .int a1, .int (v 10 i0 4)]) (rest := []) (n := 4) (q := (RX2, TX2, 8)) (ci := 2) (t := 6) (i := i0) ⟨hx, hb, hml, hown, hts⟩ (d_X2_wouldTake l E Z v i0 h_i0 (v 8 i0 (Int32.toNatClampNeg (v 13 i0 (Int32.toNatClampNeg x3_7)))) (v 12 i0 (Int32.toNatClampNeg x3_7)) a1 (v 10 i0 4) hs17) gX3_agreesWithTries_X2_wouldTake rfl hV_X2_wouldTake ⟨Nat.le_of_ble_eq_true rfl, Nat.le_of_ble_eq_true rfl⟩ hK hw (by decide) h_i0 rfl rfl rfl hl.1 rfl (Nat.le_of_ble_eq_true rfl) dX3_agreesWithTries_56 rfl rfl (fun r18 v19 H locs hp hw => ?_)
            obtain ⟨hp, hzr18⟩ := hp
            obtain ⟨hp, rfl⟩ := hp
            have hF := hF.trans (kb_some hp _)
            refine lv_if_eq (tgt := 66) hx hb dX3_agreesWithTries_59 (by decide) (fun c20 => ?_) (fun c20 => ?_)
            · skip
              have hF := hF.trans (if_pos c20)
              refine lv_iconst (v := 0) hx hb dX3_agreesWithTries_66 (by decide) ?_
              refine lv_istore (lv' := [(5, .int 0), (4, .int (v 13 i0 (Int32.toNatClampNeg x3_7))), (0, .ref (Z.1 6 i0)), (1, .int a1), (2, .ref (Z.1 10 i0)), (3, .int x3_7)]) hx hb dX3_agreesWithTries_67 hl (by decide) rfl (fun ls hl => ?_)
              refine lv_iload hx hb dX3_agreesWithTries_69 (lv_at hl 0 rfl) ?_
              have hs21 : g_X7_bit v 0 ≠ none := fun q => hs (hF.trans (kb_n q _))
              refine km_cSN (As := [.int 0]) (rest := []) (n := 1) ⟨hx, hb, hml, hown, hts⟩ (d_X7_bit l E Z v 0 hs21) gX3_agreesWithTries_X7_bit_n28 rfl (hts (.initialized RX7) (by decide +kernel)) (by decide +kernel) (hts (.static yX7_bit) (by decide +kernel)) (by decide +kernel) ⟨Nat.le_of_ble_eq_true rfl, Nat.le_of_ble_eq_true rfl⟩ hK hw rfl hl.1 rfl (Nat.le_of_ble_eq_true rfl) dX3_agreesWithTries_71 rfl rfl (fun r22 v23 H locs hp hw => ?_)
              obtain ⟨hp, rfl⟩ := hp
              have hF := hF.trans (kb_some hp _)
              refine lv_aload_n hx hb dX3_agreesWithTries_74 rfl (lv_at hl 4 rfl) ?_
              refine km_get (ci := 4) (C := RX4) (T := TX4) (N := 8) (t := 10) (i := i0) hx hb hts fi_X3_agreesWithTries_X4 hown hK hw (by decide) (Nat.lt_of_lt_of_le (show i0 < cntX 6 from h_i0) (by decide)) rfl rfl 3 (by decide) (hts (.fieldLink RX3 60 "WrongWord$Moment" "triedTaken" "[I") ow_X3_agreesWithTries_60) rfl dX3_agreesWithTries_75 ?_
              refine lv_iload_n hx hb dX3_agreesWithTries_78 rfl (lv_at hl 5 rfl) ?_
              have hb24 : ¬ (x3_7 < 0 ∨ 9 ≤ Int32.toNatClampNeg x3_7) := fun q => hs (hF.trans (if_pos q))
              have hF := hF.trans (if_neg hb24)
              refine km_iald (t := 14) (i := i0) hx hb hK hw (by decide) (Nat.lt_of_lt_of_le (show i0 < cntX 6 from h_i0) (by decide)) rfl hb24 dX3_agreesWithTries_79 ?_
              refine lv_icmp_eq (tgt := 85) hx hb dX3_agreesWithTries_80 (by decide) (fun c25 => ?_) (fun c25 => ?_)
              · skip
                have hF := hF.trans (if_pos c25)
                refine lv_iinc (v := x3_7 + 1) (lv' := [(3, .int (x3_7 + 1)), (5, .int 0), (4, .int (v 13 i0 (Int32.toNatClampNeg x3_7))), (0, .ref (Z.1 6 i0)), (1, .int a1), (2, .ref (Z.1 10 i0))]) hx hb dX3_agreesWithTries_85 hl (k := 5) rfl rfl (by decide) rfl (fun ls hl => ?_)
                refine lv_goto (tgt := 7) hx hb dX3_agreesWithTries_88 (by decide) ?_
                have hl := lv_sub (l' := [(0, .ref (Z.1 6 i0)), (1, .int a1), (2, .ref (Z.1 10 i0)), (3, .int (x3_7 + 1))]) hl [3, 4, 5, 0] rfl
                exact ih7 (x3_7 + 1) _ _ _ hF hw hl
              · skip
                have hF := hF.trans (if_neg c25)
                refine lv_iconst (v := 0) hx hb dX3_agreesWithTries_83 (by decide) ?_
                exact hret _ _ _ _ _ _ hw dX3_agreesWithTries_84 (Or.inl rfl) ⟨hF, rfl⟩
            · skip
              have hF := hF.trans (if_neg c20)
              refine lv_iconst (v := 1) hx hb dX3_agreesWithTries_62 (by decide) ?_
              refine lv_goto (tgt := 67) hx hb dX3_agreesWithTries_63 (by decide) ?_
              refine lv_istore (lv' := [(5, .int 1), (4, .int (v 13 i0 (Int32.toNatClampNeg x3_7))), (0, .ref (Z.1 6 i0)), (1, .int a1), (2, .ref (Z.1 10 i0)), (3, .int x3_7)]) hx hb dX3_agreesWithTries_67 hl (by decide) rfl (fun ls hl => ?_)
              refine lv_iload hx hb dX3_agreesWithTries_69 (lv_at hl 0 rfl) ?_
              have hs26 : g_X7_bit v 1 ≠ none := fun q => hs (hF.trans (kb_n q _))
              refine km_cSN (As := [.int 1]) (rest := []) (n := 1) ⟨hx, hb, hml, hown, hts⟩ (d_X7_bit l E Z v 1 hs26) gX3_agreesWithTries_X7_bit_n28 rfl (hts (.initialized RX7) (by decide +kernel)) (by decide +kernel) (hts (.static yX7_bit) (by decide +kernel)) (by decide +kernel) ⟨Nat.le_of_ble_eq_true rfl, Nat.le_of_ble_eq_true rfl⟩ hK hw rfl hl.1 rfl (Nat.le_of_ble_eq_true rfl) dX3_agreesWithTries_71 rfl rfl (fun r27 v28 H locs hp hw => ?_)
              obtain ⟨hp, rfl⟩ := hp
              have hF := hF.trans (kb_some hp _)
              refine lv_aload_n hx hb dX3_agreesWithTries_74 rfl (lv_at hl 4 rfl) ?_
              refine km_get (ci := 4) (C := RX4) (T := TX4) (N := 8) (t := 10) (i := i0) hx hb hts fi_X3_agreesWithTries_X4 hown hK hw (by decide) (Nat.lt_of_lt_of_le (show i0 < cntX 6 from h_i0) (by decide)) rfl rfl 3 (by decide) (hts (.fieldLink RX3 60 "WrongWord$Moment" "triedTaken" "[I") ow_X3_agreesWithTries_60) rfl dX3_agreesWithTries_75 ?_
              refine lv_iload_n hx hb dX3_agreesWithTries_78 rfl (lv_at hl 5 rfl) ?_
              have hb29 : ¬ (x3_7 < 0 ∨ 9 ≤ Int32.toNatClampNeg x3_7) := fun q => hs (hF.trans (if_pos q))
              have hF := hF.trans (if_neg hb29)
              refine km_iald (t := 14) (i := i0) hx hb hK hw (by decide) (Nat.lt_of_lt_of_le (show i0 < cntX 6 from h_i0) (by decide)) rfl hb29 dX3_agreesWithTries_79 ?_
              refine lv_icmp_eq (tgt := 85) hx hb dX3_agreesWithTries_80 (by decide) (fun c30 => ?_) (fun c30 => ?_)
              · skip
                have hF := hF.trans (if_pos c30)
                refine lv_iinc (v := x3_7 + 1) (lv' := [(3, .int (x3_7 + 1)), (5, .int 1), (4, .int (v 13 i0 (Int32.toNatClampNeg x3_7))), (0, .ref (Z.1 6 i0)), (1, .int a1), (2, .ref (Z.1 10 i0))]) hx hb dX3_agreesWithTries_85 hl (k := 5) rfl rfl (by decide) rfl (fun ls hl => ?_)
                refine lv_goto (tgt := 7) hx hb dX3_agreesWithTries_88 (by decide) ?_
                have hl := lv_sub (l' := [(0, .ref (Z.1 6 i0)), (1, .int a1), (2, .ref (Z.1 10 i0)), (3, .int (x3_7 + 1))]) hl [3, 4, 5, 0] rfl
                exact ih7 (x3_7 + 1) _ _ _ hF hw hl
              · skip
                have hF := hF.trans (if_neg c30)
                refine lv_iconst (v := 0) hx hb dX3_agreesWithTries_83 (by decide) ?_
                exact hret _ _ _ _ _ _ hw dX3_agreesWithTries_84 (Or.inl rfl) ⟨hF, rfl⟩
  refine lv_aload_n hx hb dX3_agreesWithTries_0 rfl (lv_at hl 0 rfl) ?_
  refine km_get (ci := 2) (C := RX2) (T := TX2) (N := 8) (t := 6) (i := i0) hx hb hts fi_X3_agreesWithTries_X2 hown hK hw (by decide) h_i0 rfl rfl 3 (by decide) (hts (.fieldLink RX3 32 "WrongWord$Gate" "now" "LWrongWord$Moment;") ow_X3_agreesWithTries_32) rfl dX3_agreesWithTries_1 ?_
  refine lv_astore_n (lv' := [(2, .ref (Z.1 10 i0)), (0, .ref (Z.1 6 i0)), (1, .int a1)]) hx hb dX3_agreesWithTries_4 rfl hl (by decide) rfl (fun ls hl => ?_)
  refine lv_iconst (v := 0) hx hb dX3_agreesWithTries_5 (by decide) ?_
  refine lv_istore_n (lv' := [(3, .int 0), (2, .ref (Z.1 10 i0)), (0, .ref (Z.1 6 i0)), (1, .int a1)]) hx hb dX3_agreesWithTries_6 rfl hl (by decide) rfl (fun ls hl => ?_)
  have hl := lv_sub (l' := [(0, .ref (Z.1 6 i0)), (1, .int a1), (2, .ref (Z.1 10 i0)), (3, .int 0)]) hl [2, 3, 1, 0] rfl
  exact loop7 2000 0 _ _ _ hF hw hl
abbrev rmX3_agreeing : Room := { frames := 3, cells := 0, slots := 0, locals := 73 }
def b_X3_agreeing_L4  (rec4 : Int32 → Int32 → Option (Int32)) (v : Mm) (i0 : Nat) (x1_4 : Int32) (x2_4 : Int32) : Option (Int32) := if v 6 i0 6 ≤ x2_4 then (some x1_4) else (Option.bind (g_X3_agreesWithTries v i0 x2_4) (fun r3 => Option.bind (g_X7_bit v r3) (fun r6 => rec4 (x1_4 ||| (r6 <<< (x2_4 &&& 31))) (x2_4 + 1))))
def g_X3_agreeing_L4  (v : Mm) (i0 : Nat) : Nat → Int32 → Int32 → Option (Int32)
  | 0 => fun _ _ => none
  | n + 1 => b_X3_agreeing_L4  (g_X3_agreeing_L4  v i0 n) v i0
def g_X3_agreeing (v : Mm) (i0 : Nat) : Option (Int32) := g_X3_agreeing_L4  v i0 2000 0 0
set_option maxHeartbeats 4000000 in
set_option maxRecDepth 100000 in
theorem d_X3_agreeing (l : Launch) (E : kq_T) (Z : km_Z) (v : Mm) (i0 : Nat) (h_i0 : i0 < cntX 6) (hs : g_X3_agreeing v i0 ≠ none) : km_I l E Z cntX yX3_agreeing wsX3_agreeing rmX3_agreeing [.ref (Z.1 6 i0)] v (fun r v1 => g_X3_agreeing v i0 = some r ∧ v = v1) := by
  refine km_goI (cc := cX3_agreeing) (maxL := 3) (by decide) rfl (Nat.le_of_ble_eq_true rfl) rfl rfl rfl ?_
  intro p e s m below meth c A ls Q C hK hw hl hret
  obtain ⟨hx, hb, hml, hown, hts, -, -, -⟩ := C
  have hown : s.vm.findClass RX3 = some m.cls := hown
  have hl : lv_has ls 3 [(0, .ref (Z.1 6 i0))] := hl
  have hF := g_X3_agreeing.eq_1 v i0
  have loop4 : ∀ (n4 : Nat) (x1_4 : Int32) (x2_4 : Int32) (H : Heap) (locs : List Loc) (ls : Array Slot), g_X3_agreeing v i0 = g_X3_agreeing_L4  v i0 n4 x1_4 x2_4 → km_w E A s.heap [] Z cntX v H locs → lv_has ls 3 [(0, .ref (Z.1 6 i0)), (1, .int x1_4), (2, .int x2_4)] → W p l e rmX3_agreeing s m [.ref (Z.1 6 i0)].toArray below meth c H locs 0 0 Q (F0 m 4 ls []) := by
    intro n4
    induction n4 with
    | zero => intro x1_4 x2_4 H locs ls hF hw hl; exact absurd (show g_X3_agreeing v i0 = none from hF) hs
    | succ n4 ih4 =>
      intro x1_4 x2_4 H locs ls hF hw hl
      have hF := hF.trans (b_X3_agreeing_L4.eq_1  (g_X3_agreeing_L4  v i0 n4) v i0 x1_4 x2_4)
      refine lv_iload_n hx hb dX3_agreeing_4 rfl (lv_at hl 2 rfl) ?_
      refine lv_aload_n hx hb dX3_agreeing_5 rfl (lv_at hl 0 rfl) ?_
      refine km_get (ci := 2) (C := RX2) (T := TX2) (N := 8) (t := 6) (i := i0) hx hb hts fi_X3_agreeing_X2 hown hK hw (by decide) h_i0 rfl rfl 6 (by decide) (hts (.fieldLink RX3 18 "WrongWord$Gate" "words" "I") ow_X3_agreeing_18) rfl dX3_agreeing_6 ?_
      refine lv_icmp_ge (tgt := 31) hx hb dX3_agreeing_9 (by decide) (fun c1 => ?_) (fun c1 => ?_)
      · skip
        have hF := hF.trans (if_pos c1)
        refine lv_iload_n hx hb dX3_agreeing_31 rfl (lv_at hl 1 rfl) ?_
        exact hret _ _ _ _ _ _ hw dX3_agreeing_32 ⟨hF, rfl⟩
      · skip
        have hF := hF.trans (if_neg c1)
        refine lv_iload_n hx hb dX3_agreeing_12 rfl (lv_at hl 1 rfl) ?_
        refine lv_aload_n hx hb dX3_agreeing_13 rfl (lv_at hl 0 rfl) ?_
        refine lv_iload_n hx hb dX3_agreeing_14 rfl (lv_at hl 2 rfl) ?_
        have hs2 : g_X3_agreesWithTries v i0 x2_4 ≠ none := fun q => hs (hF.trans (kb_n q _))
        refine km_cS (As := [.ref (Z.1 6 i0), .int x2_4]) (rest := [.int x1_4]) (n := 2) ⟨hx, hb, hml, hown, hts⟩ (d_X3_agreesWithTries l E Z v i0 h_i0 x2_4 hs2) gX3_agreeing_X3_agreesWithTries rfl hV_X3_agreesWithTries ⟨Nat.le_of_ble_eq_true rfl, Nat.le_of_ble_eq_true rfl⟩ hK hw rfl hl.1 rfl (Nat.le_of_ble_eq_true rfl) dX3_agreeing_15 rfl rfl (fun r3 v4 H locs hp hw => ?_)
        obtain ⟨hp, hzr3⟩ := hp
        obtain ⟨hp, rfl⟩ := hp
        have hF := hF.trans (kb_some hp _)
        have hs5 : g_X7_bit v r3 ≠ none := fun q => hs (hF.trans (kb_n q _))
        refine km_cSN (As := [.int r3]) (rest := [.int x1_4]) (n := 1) ⟨hx, hb, hml, hown, hts⟩ (d_X7_bit l E Z v r3 hs5) gX3_agreeing_X7_bit_n28 rfl (hts (.initialized RX7) (by decide +kernel)) (by decide +kernel) (hts (.static yX7_bit) (by decide +kernel)) (by decide +kernel) ⟨Nat.le_of_ble_eq_true rfl, Nat.le_of_ble_eq_true rfl⟩ hK hw rfl hl.1 rfl (Nat.le_of_ble_eq_true rfl) dX3_agreeing_18 rfl rfl (fun r6 v7 H locs hp hw => ?_)
        obtain ⟨hp, rfl⟩ := hp
        have hF := hF.trans (kb_some hp _)
        refine lv_iload_n hx hb dX3_agreeing_21 rfl (lv_at hl 2 rfl) ?_
        refine lv_ishl hx hb dX3_agreeing_22 ?_
        refine lv_ior hx hb dX3_agreeing_23 ?_
        refine lv_istore_n (lv' := [(1, .int (x1_4 ||| (r6 <<< (x2_4 &&& 31)))), (0, .ref (Z.1 6 i0)), (2, .int x2_4)]) hx hb dX3_agreeing_24 rfl hl (by decide) rfl (fun ls hl => ?_)
        refine lv_iinc (v := x2_4 + 1) (lv' := [(2, .int (x2_4 + 1)), (1, .int (x1_4 ||| (r6 <<< (x2_4 &&& 31)))), (0, .ref (Z.1 6 i0))]) hx hb dX3_agreeing_25 hl (k := 2) rfl rfl (by decide) rfl (fun ls hl => ?_)
        refine lv_goto (tgt := 4) hx hb dX3_agreeing_28 (by decide) ?_
        have hl := lv_sub (l' := [(0, .ref (Z.1 6 i0)), (1, .int (x1_4 ||| (r6 <<< (x2_4 &&& 31)))), (2, .int (x2_4 + 1))]) hl [2, 1, 0] rfl
        exact ih4 (x1_4 ||| (r6 <<< (x2_4 &&& 31))) (x2_4 + 1) _ _ _ hF hw hl
  refine lv_iconst (v := 0) hx hb dX3_agreeing_0 (by decide) ?_
  refine lv_istore_n (lv' := [(1, .int 0), (0, .ref (Z.1 6 i0))]) hx hb dX3_agreeing_1 rfl hl (by decide) rfl (fun ls hl => ?_)
  refine lv_iconst (v := 0) hx hb dX3_agreeing_2 (by decide) ?_
  refine lv_istore_n (lv' := [(2, .int 0), (1, .int 0), (0, .ref (Z.1 6 i0))]) hx hb dX3_agreeing_3 rfl hl (by decide) rfl (fun ls hl => ?_)
  have hl := lv_sub (l' := [(0, .ref (Z.1 6 i0)), (1, .int 0), (2, .int 0)]) hl [2, 1, 0] rfl
  exact loop4 2000 0 0 _ _ _ hF hw hl
abbrev rmX3_secretsCatching : Room := { frames := 3, cells := 0, slots := 0, locals := 73 }
def b_X3_secretsCatching_L5  (rec5 : Int32 → Int32 → Option (Int32)) (v : Mm) (i0 : Nat) (a1 : Int32) (a2 : Int32) (x3_5 : Int32) (x4_5 : Int32) : Option (Int32) := if v 6 i0 6 ≤ x4_5 then (some x3_5) else (Option.bind (g_X2_catchesIf v i0 x4_5 a1 a2 (v 10 i0 4)) (fun r3 => Option.bind (g_X7_bit v r3) (fun r6 => rec5 (x3_5 ||| (r6 <<< (x4_5 &&& 31))) (x4_5 + 1))))
def g_X3_secretsCatching_L5  (v : Mm) (i0 : Nat) (a1 : Int32) (a2 : Int32) : Nat → Int32 → Int32 → Option (Int32)
  | 0 => fun _ _ => none
  | n + 1 => b_X3_secretsCatching_L5  (g_X3_secretsCatching_L5  v i0 a1 a2 n) v i0 a1 a2
def g_X3_secretsCatching (v : Mm) (i0 : Nat) (a1 : Int32) (a2 : Int32) : Option (Int32) := g_X3_secretsCatching_L5  v i0 a1 a2 2000 0 0
set_option maxHeartbeats 4000000 in
set_option maxRecDepth 100000 in
theorem d_X3_secretsCatching (l : Launch) (E : kq_T) (Z : km_Z) (v : Mm) (i0 : Nat) (h_i0 : i0 < cntX 6) (a1 : Int32) (a2 : Int32) (hs : g_X3_secretsCatching v i0 a1 a2 ≠ none) : km_I l E Z cntX yX3_secretsCatching wsX3_secretsCatching rmX3_secretsCatching [.ref (Z.1 6 i0), .int a1, .int a2] v (fun r v1 => g_X3_secretsCatching v i0 a1 a2 = some r ∧ v = v1) := by
  refine km_goI (cc := cX3_secretsCatching) (maxL := 5) (by decide) rfl (Nat.le_of_ble_eq_true rfl) rfl rfl rfl ?_
  intro p e s m below meth c A ls Q C hK hw hl hret
  obtain ⟨hx, hb, hml, hown, hts, -, -, -⟩ := C
  have hown : s.vm.findClass RX3 = some m.cls := hown
  have hl : lv_has ls 5 [(0, .ref (Z.1 6 i0)), (1, .int a1), (2, .int a2)] := hl
  have hF := g_X3_secretsCatching.eq_1 v i0 a1 a2
  have loop5 : ∀ (n5 : Nat) (x3_5 : Int32) (x4_5 : Int32) (H : Heap) (locs : List Loc) (ls : Array Slot), g_X3_secretsCatching v i0 a1 a2 = g_X3_secretsCatching_L5  v i0 a1 a2 n5 x3_5 x4_5 → km_w E A s.heap [] Z cntX v H locs → lv_has ls 5 [(0, .ref (Z.1 6 i0)), (1, .int a1), (2, .int a2), (3, .int x3_5), (4, .int x4_5)] → W p l e rmX3_secretsCatching s m [.ref (Z.1 6 i0), .int a1, .int a2].toArray below meth c H locs 0 0 Q (F0 m 5 ls []) := by
    intro n5
    induction n5 with
    | zero => intro x3_5 x4_5 H locs ls hF hw hl; exact absurd (show g_X3_secretsCatching v i0 a1 a2 = none from hF) hs
    | succ n5 ih5 =>
      intro x3_5 x4_5 H locs ls hF hw hl
      have hF := hF.trans (b_X3_secretsCatching_L5.eq_1  (g_X3_secretsCatching_L5  v i0 a1 a2 n5) v i0 a1 a2 x3_5 x4_5)
      refine lv_iload hx hb dX3_secretsCatching_5 (lv_at hl 4 rfl) ?_
      refine lv_aload_n hx hb dX3_secretsCatching_7 rfl (lv_at hl 0 rfl) ?_
      refine km_get (ci := 2) (C := RX2) (T := TX2) (N := 8) (t := 6) (i := i0) hx hb hts fi_X3_secretsCatching_X2 hown hK hw (by decide) h_i0 rfl rfl 6 (by decide) (hts (.fieldLink RX3 18 "WrongWord$Gate" "words" "I") ow_X3_secretsCatching_18) rfl dX3_secretsCatching_8 ?_
      refine lv_icmp_ge (tgt := 44) hx hb dX3_secretsCatching_11 (by decide) (fun c1 => ?_) (fun c1 => ?_)
      · skip
        have hF := hF.trans (if_pos c1)
        refine lv_iload_n hx hb dX3_secretsCatching_44 rfl (lv_at hl 3 rfl) ?_
        exact hret _ _ _ _ _ _ hw dX3_secretsCatching_45 ⟨hF, rfl⟩
      · skip
        have hF := hF.trans (if_neg c1)
        refine lv_iload_n hx hb dX3_secretsCatching_14 rfl (lv_at hl 3 rfl) ?_
        refine lv_aload_n hx hb dX3_secretsCatching_15 rfl (lv_at hl 0 rfl) ?_
        refine lv_iload hx hb dX3_secretsCatching_16 (lv_at hl 4 rfl) ?_
        refine lv_iload_n hx hb dX3_secretsCatching_18 rfl (lv_at hl 1 rfl) ?_
        refine lv_iload_n hx hb dX3_secretsCatching_19 rfl (lv_at hl 2 rfl) ?_
        refine lv_aload_n hx hb dX3_secretsCatching_20 rfl (lv_at hl 0 rfl) ?_
        refine km_get (ci := 2) (C := RX2) (T := TX2) (N := 8) (t := 6) (i := i0) hx hb hts fi_X3_secretsCatching_X2 hown hK hw (by decide) h_i0 rfl rfl 3 (by decide) (hts (.fieldLink RX3 32 "WrongWord$Gate" "now" "LWrongWord$Moment;") ow_X3_secretsCatching_32) rfl dX3_secretsCatching_21 ?_
        refine km_get (ci := 4) (C := RX4) (T := TX4) (N := 8) (t := 10) (i := i0) hx hb hts fi_X3_secretsCatching_X4 hown hK hw (by decide) (Nat.lt_of_lt_of_le (show i0 < cntX 6 from h_i0) (by decide)) rfl rfl 4 (by decide) (hts (.fieldLink RX3 53 "WrongWord$Moment" "night" "I") ow_X3_secretsCatching_53) rfl dX3_secretsCatching_24 ?_
        have hs2 : g_X2_catchesIf v i0 x4_5 a1 a2 (v 10 i0 4) ≠ none := fun q => hs (hF.trans (kb_n q _))
        refine km_cI (As := [.int x4_5, .int a1, .int a2, .int (v 10 i0 4)]) (rest := [.int x3_5]) (n := 4) (q := (RX2, TX2, 8)) (ci := 2) (t := 6) (i := i0) ⟨hx, hb, hml, hown, hts⟩ (d_X2_catchesIf l E Z v i0 h_i0 x4_5 a1 a2 (v 10 i0 4) hs2) gX3_secretsCatching_X2_catchesIf rfl hV_X2_catchesIf ⟨Nat.le_of_ble_eq_true rfl, Nat.le_of_ble_eq_true rfl⟩ hK hw (by decide) h_i0 rfl rfl rfl hl.1 rfl (Nat.le_of_ble_eq_true rfl) dX3_secretsCatching_27 rfl rfl (fun r3 v4 H locs hp hw => ?_)
        obtain ⟨hp, hzr3⟩ := hp
        obtain ⟨hp, rfl⟩ := hp
        have hF := hF.trans (kb_some hp _)
        have hs5 : g_X7_bit v r3 ≠ none := fun q => hs (hF.trans (kb_n q _))
        refine km_cSN (As := [.int r3]) (rest := [.int x3_5]) (n := 1) ⟨hx, hb, hml, hown, hts⟩ (d_X7_bit l E Z v r3 hs5) gX3_secretsCatching_X7_bit_n28 rfl (hts (.initialized RX7) (by decide +kernel)) (by decide +kernel) (hts (.static yX7_bit) (by decide +kernel)) (by decide +kernel) ⟨Nat.le_of_ble_eq_true rfl, Nat.le_of_ble_eq_true rfl⟩ hK hw rfl hl.1 rfl (Nat.le_of_ble_eq_true rfl) dX3_secretsCatching_30 rfl rfl (fun r6 v7 H locs hp hw => ?_)
        obtain ⟨hp, rfl⟩ := hp
        have hF := hF.trans (kb_some hp _)
        refine lv_iload hx hb dX3_secretsCatching_33 (lv_at hl 4 rfl) ?_
        refine lv_ishl hx hb dX3_secretsCatching_35 ?_
        refine lv_ior hx hb dX3_secretsCatching_36 ?_
        refine lv_istore_n (lv' := [(3, .int (x3_5 ||| (r6 <<< (x4_5 &&& 31)))), (0, .ref (Z.1 6 i0)), (1, .int a1), (2, .int a2), (4, .int x4_5)]) hx hb dX3_secretsCatching_37 rfl hl (by decide) rfl (fun ls hl => ?_)
        refine lv_iinc (v := x4_5 + 1) (lv' := [(4, .int (x4_5 + 1)), (3, .int (x3_5 ||| (r6 <<< (x4_5 &&& 31)))), (0, .ref (Z.1 6 i0)), (1, .int a1), (2, .int a2)]) hx hb dX3_secretsCatching_38 hl (k := 4) rfl rfl (by decide) rfl (fun ls hl => ?_)
        refine lv_goto (tgt := 5) hx hb dX3_secretsCatching_41 (by decide) ?_
        have hl := lv_sub (l' := [(0, .ref (Z.1 6 i0)), (1, .int a1), (2, .int a2), (3, .int (x3_5 ||| (r6 <<< (x4_5 &&& 31)))), (4, .int (x4_5 + 1))]) hl [2, 3, 4, 1, 0] rfl
        exact ih5 (x3_5 ||| (r6 <<< (x4_5 &&& 31))) (x4_5 + 1) _ _ _ hF hw hl
  refine lv_iconst (v := 0) hx hb dX3_secretsCatching_0 (by decide) ?_
  refine lv_istore_n (lv' := [(3, .int 0), (0, .ref (Z.1 6 i0)), (1, .int a1), (2, .int a2)]) hx hb dX3_secretsCatching_1 rfl hl (by decide) rfl (fun ls hl => ?_)
  refine lv_iconst (v := 0) hx hb dX3_secretsCatching_2 (by decide) ?_
  refine lv_istore (lv' := [(4, .int 0), (3, .int 0), (0, .ref (Z.1 6 i0)), (1, .int a1), (2, .int a2)]) hx hb dX3_secretsCatching_3 hl (by decide) rfl (fun ls hl => ?_)
  have hl := lv_sub (l' := [(0, .ref (Z.1 6 i0)), (1, .int a1), (2, .int a2), (3, .int 0), (4, .int 0)]) hl [2, 3, 4, 1, 0] rfl
  exact loop5 2000 0 0 _ _ _ hF hw hl
abbrev rmJ6_bitCount_0f7a4 : Room := { frames := 0, cells := 0, slots := 0, locals := 0 }
def g_J6_bitCount_0f7a4 (v : Mm) (a0 : Int32) : Option (Int32) := Option.bind (some (a0 - (((Int32.toUInt32 a0 >>> (Int32.toUInt32 1 &&& Int32.toUInt32 31)).toInt32) &&& 1431655765))) (fun x1 => Option.bind (some ((x1 &&& 858993459) + (((Int32.toUInt32 x1 >>> (Int32.toUInt32 2 &&& Int32.toUInt32 31)).toInt32) &&& 858993459))) (fun x2 => Option.bind (some ((x2 + ((Int32.toUInt32 x2 >>> (Int32.toUInt32 4 &&& Int32.toUInt32 31)).toInt32)) &&& 252645135)) (fun x3 => Option.bind (some (x3 + ((Int32.toUInt32 x3 >>> (Int32.toUInt32 8 &&& Int32.toUInt32 31)).toInt32))) (fun x4 => Option.bind (some (x4 + ((Int32.toUInt32 x4 >>> (Int32.toUInt32 16 &&& Int32.toUInt32 31)).toInt32))) (fun x5 => some (x5 &&& 63))))))
set_option maxHeartbeats 4000000 in
set_option maxRecDepth 100000 in
theorem d_J6_bitCount_0f7a4 (l : Launch) (E : kq_T) (Z : km_Z) (v : Mm) (a0 : Int32) (hs : g_J6_bitCount_0f7a4 v a0 ≠ none) : km_I l E Z cntX yJ6_bitCount_0f7a4 wsJ6_bitCount_0f7a4 rmJ6_bitCount_0f7a4 [.int a0] v (fun r v1 => g_J6_bitCount_0f7a4 v a0 = some r ∧ v = v1) := by
  refine km_goI (cc := cJ6_bitCount_0f7a4) (maxL := 1) (by decide) rfl (Nat.le_of_ble_eq_true rfl) rfl rfl rfl ?_
  intro p e s m below meth c A ls Q C hK hw hl hret
  obtain ⟨hx, hb, hml, hown, hts, -, -, -⟩ := C
  have hown : s.vm.findClass RJ6 = some m.cls := hown
  have hl : lv_has ls 1 [(0, .int a0)] := hl
  have hF := g_J6_bitCount_0f7a4.eq_1 v a0
  refine lv_iload_n hx hb dJ6_bitCount_0f7a4_0 rfl (lv_at hl 0 rfl) ?_
  refine lv_iload_n hx hb dJ6_bitCount_0f7a4_1 rfl (lv_at hl 0 rfl) ?_
  refine lv_iconst (v := 1) hx hb dJ6_bitCount_0f7a4_2 (by decide) ?_
  refine lv_iushr (v := (Int32.toUInt32 a0 >>> (Int32.toUInt32 1 &&& Int32.toUInt32 31)).toInt32) hx hb dJ6_bitCount_0f7a4_3 rfl ?_
  refine lv_ldcw (v := 1431655765) hx hb hown (hts (.constant RJ6 265 (1431655765)) ow_J6_bitCount_0f7a4_265) dJ6_bitCount_0f7a4_4 ?_
  refine lv_iand hx hb dJ6_bitCount_0f7a4_7 ?_
  refine lv_isub hx hb dJ6_bitCount_0f7a4_8 ?_
  refine lv_topi (fun x1 ex1 => ?_)
  have hF := hF.trans (kb_some (congrArg some ex1.symm) _)
  refine lv_istore_n (lv' := [(0, .int x1)]) hx hb dJ6_bitCount_0f7a4_9 rfl hl (by decide) rfl (fun ls hl => ?_)
  refine lv_iload_n hx hb dJ6_bitCount_0f7a4_10 rfl (lv_at hl 0 rfl) ?_
  refine lv_ldcw (v := 858993459) hx hb hown (hts (.constant RJ6 266 (858993459)) ow_J6_bitCount_0f7a4_266) dJ6_bitCount_0f7a4_11 ?_
  refine lv_iand hx hb dJ6_bitCount_0f7a4_14 ?_
  refine lv_iload_n hx hb dJ6_bitCount_0f7a4_15 rfl (lv_at hl 0 rfl) ?_
  refine lv_iconst (v := 2) hx hb dJ6_bitCount_0f7a4_16 (by decide) ?_
  refine lv_iushr (v := (Int32.toUInt32 x1 >>> (Int32.toUInt32 2 &&& Int32.toUInt32 31)).toInt32) hx hb dJ6_bitCount_0f7a4_17 rfl ?_
  refine lv_ldcw (v := 858993459) hx hb hown (hts (.constant RJ6 266 (858993459)) ow_J6_bitCount_0f7a4_266) dJ6_bitCount_0f7a4_18 ?_
  refine lv_iand hx hb dJ6_bitCount_0f7a4_21 ?_
  refine lv_iadd hx hb dJ6_bitCount_0f7a4_22 ?_
  refine lv_topi (fun x2 ex2 => ?_)
  have hF := hF.trans (kb_some (congrArg some ex2.symm) _)
  refine lv_istore_n (lv' := [(0, .int x2)]) hx hb dJ6_bitCount_0f7a4_23 rfl hl (by decide) rfl (fun ls hl => ?_)
  refine lv_iload_n hx hb dJ6_bitCount_0f7a4_24 rfl (lv_at hl 0 rfl) ?_
  refine lv_iload_n hx hb dJ6_bitCount_0f7a4_25 rfl (lv_at hl 0 rfl) ?_
  refine lv_iconst (v := 4) hx hb dJ6_bitCount_0f7a4_26 (by decide) ?_
  refine lv_iushr (v := (Int32.toUInt32 x2 >>> (Int32.toUInt32 4 &&& Int32.toUInt32 31)).toInt32) hx hb dJ6_bitCount_0f7a4_27 rfl ?_
  refine lv_iadd hx hb dJ6_bitCount_0f7a4_28 ?_
  refine lv_ldcw (v := 252645135) hx hb hown (hts (.constant RJ6 267 (252645135)) ow_J6_bitCount_0f7a4_267) dJ6_bitCount_0f7a4_29 ?_
  refine lv_iand hx hb dJ6_bitCount_0f7a4_32 ?_
  refine lv_topi (fun x3 ex3 => ?_)
  have hF := hF.trans (kb_some (congrArg some ex3.symm) _)
  refine lv_istore_n (lv' := [(0, .int x3)]) hx hb dJ6_bitCount_0f7a4_33 rfl hl (by decide) rfl (fun ls hl => ?_)
  refine lv_iload_n hx hb dJ6_bitCount_0f7a4_34 rfl (lv_at hl 0 rfl) ?_
  refine lv_iload_n hx hb dJ6_bitCount_0f7a4_35 rfl (lv_at hl 0 rfl) ?_
  refine lv_bipush (v := 8) hx hb dJ6_bitCount_0f7a4_36 (by decide) ?_
  refine lv_iushr (v := (Int32.toUInt32 x3 >>> (Int32.toUInt32 8 &&& Int32.toUInt32 31)).toInt32) hx hb dJ6_bitCount_0f7a4_38 rfl ?_
  refine lv_iadd hx hb dJ6_bitCount_0f7a4_39 ?_
  refine lv_topi (fun x4 ex4 => ?_)
  have hF := hF.trans (kb_some (congrArg some ex4.symm) _)
  refine lv_istore_n (lv' := [(0, .int x4)]) hx hb dJ6_bitCount_0f7a4_40 rfl hl (by decide) rfl (fun ls hl => ?_)
  refine lv_iload_n hx hb dJ6_bitCount_0f7a4_41 rfl (lv_at hl 0 rfl) ?_
  refine lv_iload_n hx hb dJ6_bitCount_0f7a4_42 rfl (lv_at hl 0 rfl) ?_
  refine lv_bipush (v := 16) hx hb dJ6_bitCount_0f7a4_43 (by decide) ?_
  refine lv_iushr (v := (Int32.toUInt32 x4 >>> (Int32.toUInt32 16 &&& Int32.toUInt32 31)).toInt32) hx hb dJ6_bitCount_0f7a4_45 rfl ?_
  refine lv_iadd hx hb dJ6_bitCount_0f7a4_46 ?_
  refine lv_topi (fun x5 ex5 => ?_)
  have hF := hF.trans (kb_some (congrArg some ex5.symm) _)
  refine lv_istore_n (lv' := [(0, .int x5)]) hx hb dJ6_bitCount_0f7a4_47 rfl hl (by decide) rfl (fun ls hl => ?_)
  refine lv_iload_n hx hb dJ6_bitCount_0f7a4_48 rfl (lv_at hl 0 rfl) ?_
  refine lv_bipush (v := 63) hx hb dJ6_bitCount_0f7a4_49 (by decide) ?_
  refine lv_iand hx hb dJ6_bitCount_0f7a4_51 ?_
  exact hret _ _ _ _ _ _ hw dJ6_bitCount_0f7a4_52 ⟨hF, rfl⟩
abbrev rmX3_leftAtWorst : Room := { frames := 4, cells := 0, slots := 0, locals := 97 }
def g_X3_leftAtWorst (v : Mm) (i0 : Nat) (a1 : Int32) (a2 : Int32) : Option (Int32) := Option.bind (g_X3_secretsCatching v i0 (a1 / 6) (a1 - a1 / 6 * 6)) (fun r2 => Option.bind (g_J6_bitCount_0f7a4 v (a2 &&& r2)) (fun r5 => Option.bind (g_J6_bitCount_0f7a4 v a2) (fun r8 => Option.bind (some (if r5 < r8 - r5 then r8 - r5 else r5)) (fun x10 => some x10))))
set_option maxHeartbeats 4000000 in
set_option maxRecDepth 100000 in
theorem d_X3_leftAtWorst (l : Launch) (E : kq_T) (Z : km_Z) (v : Mm) (i0 : Nat) (h_i0 : i0 < cntX 6) (a1 : Int32) (a2 : Int32) (hs : g_X3_leftAtWorst v i0 a1 a2 ≠ none) : km_I l E Z cntX yX3_leftAtWorst wsX3_leftAtWorst rmX3_leftAtWorst [.ref (Z.1 6 i0), .int a1, .int a2] v (fun r v1 => g_X3_leftAtWorst v i0 a1 a2 = some r ∧ v = v1) := by
  refine km_goI (cc := cX3_leftAtWorst) (maxL := 4) (by decide) rfl (Nat.le_of_ble_eq_true rfl) rfl rfl rfl ?_
  intro p e s m below meth c A ls Q C hK hw hl hret
  obtain ⟨hx, hb, hml, hown, hts, -, -, -⟩ := C
  have hown : s.vm.findClass RX3 = some m.cls := hown
  have hl : lv_has ls 4 [(0, .ref (Z.1 6 i0)), (1, .int a1), (2, .int a2)] := hl
  have hF := g_X3_leftAtWorst.eq_1 v i0 a1 a2
  refine lv_iload_n hx hb dX3_leftAtWorst_0 rfl (lv_at hl 2 rfl) ?_
  refine lv_aload_n hx hb dX3_leftAtWorst_1 rfl (lv_at hl 0 rfl) ?_
  refine lv_iload_n hx hb dX3_leftAtWorst_2 rfl (lv_at hl 1 rfl) ?_
  refine lv_bipush (v := 6) hx hb dX3_leftAtWorst_3 (by decide) ?_
  refine lv_idiv hx hb dX3_leftAtWorst_5 (by decide) ?_
  refine lv_iload_n hx hb dX3_leftAtWorst_6 rfl (lv_at hl 1 rfl) ?_
  refine lv_bipush (v := 6) hx hb dX3_leftAtWorst_7 (by decide) ?_
  refine lv_irem hx hb dX3_leftAtWorst_9 (by decide) ?_
  have hs1 : g_X3_secretsCatching v i0 (a1 / 6) (a1 - a1 / 6 * 6) ≠ none := fun q => hs (hF.trans (kb_n q _))
  refine km_cS (As := [.ref (Z.1 6 i0), .int (a1 / 6), .int (a1 - a1 / 6 * 6)]) (rest := [.int a2]) (n := 3) ⟨hx, hb, hml, hown, hts⟩ (d_X3_secretsCatching l E Z v i0 h_i0 (a1 / 6) (a1 - a1 / 6 * 6) hs1) gX3_leftAtWorst_X3_secretsCatching rfl hV_X3_secretsCatching ⟨Nat.le_of_ble_eq_true rfl, Nat.le_of_ble_eq_true rfl⟩ hK hw rfl hl.1 rfl (Nat.le_of_ble_eq_true rfl) dX3_leftAtWorst_10 rfl rfl (fun r2 v3 H locs hp hw => ?_)
  obtain ⟨hp, rfl⟩ := hp
  have hF := hF.trans (kb_some hp _)
  refine lv_iand hx hb dX3_leftAtWorst_13 ?_
  have hs4 : g_J6_bitCount_0f7a4 v (a2 &&& r2) ≠ none := fun q => hs (hF.trans (kb_n q _))
  refine km_cSJ (As := [.int (a2 &&& r2)]) (rest := []) (n := 1) ⟨hx, hb, hml, hown, hts⟩ (d_J6_bitCount_0f7a4 l E Z v (a2 &&& r2) hs4) gX3_leftAtWorst_J6_bitCount_0f7a4 rfl hS_J6_bitCount_0f7a4 ⟨Nat.le_of_ble_eq_true rfl, Nat.le_of_ble_eq_true rfl⟩ hK hw rfl hl.1 rfl (Nat.le_of_ble_eq_true rfl) dX3_leftAtWorst_14 rfl rfl (fun r5 v6 H locs hp hw => ?_)
  obtain ⟨hp, rfl⟩ := hp
  have hF := hF.trans (kb_some hp _)
  refine lv_istore_n (lv' := [(3, .int r5), (0, .ref (Z.1 6 i0)), (1, .int a1), (2, .int a2)]) hx hb dX3_leftAtWorst_17 rfl hl (by decide) rfl (fun ls hl => ?_)
  refine lv_iload_n hx hb dX3_leftAtWorst_18 rfl (lv_at hl 0 rfl) ?_
  refine lv_iload_n hx hb dX3_leftAtWorst_19 rfl (lv_at hl 3 rfl) ?_
  have hs7 : g_J6_bitCount_0f7a4 v a2 ≠ none := fun q => hs (hF.trans (kb_n q _))
  refine km_cSJ (As := [.int a2]) (rest := [.int r5]) (n := 1) ⟨hx, hb, hml, hown, hts⟩ (d_J6_bitCount_0f7a4 l E Z v a2 hs7) gX3_leftAtWorst_J6_bitCount_0f7a4 rfl hS_J6_bitCount_0f7a4 ⟨Nat.le_of_ble_eq_true rfl, Nat.le_of_ble_eq_true rfl⟩ hK hw rfl hl.1 rfl (Nat.le_of_ble_eq_true rfl) dX3_leftAtWorst_20 rfl rfl (fun r8 v9 H locs hp hw => ?_)
  obtain ⟨hp, rfl⟩ := hp
  have hF := hF.trans (kb_some hp _)
  refine lv_iload_n hx hb dX3_leftAtWorst_23 rfl (lv_at hl 0 rfl) ?_
  refine lv_isub hx hb dX3_leftAtWorst_24 ?_
  refine va_mmax hx hb (hml.trans hl.1.symm) hown (hts (.methodLink RX3 76 Lib.Math.max.name) (by decide +kernel)) (hts (.static Lib.Math.max.name) (by decide +kernel)) (hts (.initialized "java/lang/Math") (by decide +kernel)) (hts (.code Lib.Math.max.name Lib.Math.max.code 2 (some .int)) (by decide +kernel)) (Nat.le_of_ble_eq_true rfl) (Nat.le_of_ble_eq_true rfl) (Nat.zero_le _) (Nat.zero_le _) dX3_leftAtWorst_25 ?_
  refine lv_topi (fun x10 ex10 => ?_)
  have hF := hF.trans (kb_some (congrArg some ex10.symm) _)
  exact hret _ _ _ _ _ _ hw dX3_leftAtWorst_28 ⟨hF, rfl⟩
abbrev rmX3_bestTry : Room := { frames := 5, cells := 0, slots := 0, locals := 120 }
def b_X3_bestTry_L12  (rec12 : Int32 → Int32 → Int32 → Option (Int32)) (v : Mm) (i0 : Nat) (a1 : Int32) (x2_12 : Int32) (x3_12 : Int32) (x4_12 : Int32) : Option (Int32) := if (v 6 i0 6) * 6 ≤ x4_12 then (some x2_12) else (Option.bind (g_X3_leftAtWorst v i0 x4_12 a1) (fun r6 => if x3_12 ≤ r6 then (rec12 x2_12 x3_12 (x4_12 + 1)) else (rec12 x4_12 r6 (x4_12 + 1))))
def g_X3_bestTry_L12  (v : Mm) (i0 : Nat) (a1 : Int32) : Nat → Int32 → Int32 → Int32 → Option (Int32)
  | 0 => fun _ _ _ => none
  | n + 1 => b_X3_bestTry_L12  (g_X3_bestTry_L12  v i0 a1 n) v i0 a1
def g_X3_bestTry (v : Mm) (i0 : Nat) (a1 : Int32) : Option (Int32) := Option.bind (g_X3_leftAtWorst v i0 0 a1) (fun r2 => g_X3_bestTry_L12  v i0 a1 2000 0 r2 1)
set_option maxHeartbeats 4000000 in
set_option maxRecDepth 100000 in
theorem d_X3_bestTry (l : Launch) (E : kq_T) (Z : km_Z) (v : Mm) (i0 : Nat) (h_i0 : i0 < cntX 6) (a1 : Int32) (hs : g_X3_bestTry v i0 a1 ≠ none) : km_I l E Z cntX yX3_bestTry wsX3_bestTry rmX3_bestTry [.ref (Z.1 6 i0), .int a1] v (fun r v1 => g_X3_bestTry v i0 a1 = some r ∧ v = v1) := by
  refine km_goI (cc := cX3_bestTry) (maxL := 6) (by decide) rfl (Nat.le_of_ble_eq_true rfl) rfl rfl rfl ?_
  intro p e s m below meth c A ls Q C hK hw hl hret
  obtain ⟨hx, hb, hml, hown, hts, -, -, -⟩ := C
  have hown : s.vm.findClass RX3 = some m.cls := hown
  have hl : lv_has ls 6 [(0, .ref (Z.1 6 i0)), (1, .int a1)] := hl
  have hF := g_X3_bestTry.eq_1 v i0 a1
  have loop12 : ∀ (n12 : Nat) (x2_12 : Int32) (x3_12 : Int32) (x4_12 : Int32) (H : Heap) (locs : List Loc) (ls : Array Slot), g_X3_bestTry v i0 a1 = g_X3_bestTry_L12  v i0 a1 n12 x2_12 x3_12 x4_12 → km_w E A s.heap [] Z cntX v H locs → lv_has ls 6 [(0, .ref (Z.1 6 i0)), (1, .int a1), (2, .int x2_12), (3, .int x3_12), (4, .int x4_12)] → W p l e rmX3_bestTry s m [.ref (Z.1 6 i0), .int a1].toArray below meth c H locs 0 0 Q (F0 m 12 ls []) := by
    intro n12
    induction n12 with
    | zero => intro x2_12 x3_12 x4_12 H locs ls hF hw hl; exact absurd (show g_X3_bestTry v i0 a1 = none from hF) hs
    | succ n12 ih12 =>
      intro x2_12 x3_12 x4_12 H locs ls hF hw hl
      have hF := hF.trans (b_X3_bestTry_L12.eq_1  (g_X3_bestTry_L12  v i0 a1 n12) v i0 a1 x2_12 x3_12 x4_12)
      refine lv_iload hx hb dX3_bestTry_12 (lv_at hl 4 rfl) ?_
      refine lv_aload_n hx hb dX3_bestTry_14 rfl (lv_at hl 0 rfl) ?_
      refine km_get (ci := 2) (C := RX2) (T := TX2) (N := 8) (t := 6) (i := i0) hx hb hts fi_X3_bestTry_X2 hown hK hw (by decide) h_i0 rfl rfl 6 (by decide) (hts (.fieldLink RX3 18 "WrongWord$Gate" "words" "I") ow_X3_bestTry_18) rfl dX3_bestTry_15 ?_
      refine lv_bipush (v := 6) hx hb dX3_bestTry_18 (by decide) ?_
      refine lv_imul hx hb dX3_bestTry_20 ?_
      refine lv_icmp_ge (tgt := 51) hx hb dX3_bestTry_21 (by decide) (fun c1 => ?_) (fun c1 => ?_)
      · skip
        have hF := hF.trans (if_pos c1)
        refine lv_iload_n hx hb dX3_bestTry_51 rfl (lv_at hl 2 rfl) ?_
        exact hret _ _ _ _ _ _ hw dX3_bestTry_52 ⟨hF, rfl⟩
      · skip
        have hF := hF.trans (if_neg c1)
        refine lv_aload_n hx hb dX3_bestTry_24 rfl (lv_at hl 0 rfl) ?_
        refine lv_iload hx hb dX3_bestTry_25 (lv_at hl 4 rfl) ?_
        refine lv_iload_n hx hb dX3_bestTry_27 rfl (lv_at hl 1 rfl) ?_
        have hs2 : g_X3_leftAtWorst v i0 x4_12 a1 ≠ none := fun q => hs (hF.trans (kb_n q _))
        refine km_cS (As := [.ref (Z.1 6 i0), .int x4_12, .int a1]) (rest := []) (n := 3) ⟨hx, hb, hml, hown, hts⟩ (d_X3_leftAtWorst l E Z v i0 h_i0 x4_12 a1 hs2) gX3_bestTry_X3_leftAtWorst rfl hV_X3_leftAtWorst ⟨Nat.le_of_ble_eq_true rfl, Nat.le_of_ble_eq_true rfl⟩ hK hw rfl hl.1 rfl (Nat.le_of_ble_eq_true rfl) dX3_bestTry_28 rfl rfl (fun r3 v4 H locs hp hw => ?_)
        obtain ⟨hp, rfl⟩ := hp
        have hF := hF.trans (kb_some hp _)
        refine lv_istore (lv' := [(5, .int r3), (0, .ref (Z.1 6 i0)), (1, .int a1), (2, .int x2_12), (3, .int x3_12), (4, .int x4_12)]) hx hb dX3_bestTry_31 hl (by decide) rfl (fun ls hl => ?_)
        refine lv_iload hx hb dX3_bestTry_33 (lv_at hl 0 rfl) ?_
        refine lv_iload_n hx hb dX3_bestTry_35 rfl (lv_at hl 4 rfl) ?_
        refine lv_icmp_ge (tgt := 45) hx hb dX3_bestTry_36 (by decide) (fun c5 => ?_) (fun c5 => ?_)
        · skip
          have hF := hF.trans (if_pos c5)
          refine lv_iinc (v := x4_12 + 1) (lv' := [(4, .int (x4_12 + 1)), (5, .int r3), (0, .ref (Z.1 6 i0)), (1, .int a1), (2, .int x2_12), (3, .int x3_12)]) hx hb dX3_bestTry_45 hl (k := 5) rfl rfl (by decide) rfl (fun ls hl => ?_)
          refine lv_goto (tgt := 12) hx hb dX3_bestTry_48 (by decide) ?_
          have hl := lv_sub (l' := [(0, .ref (Z.1 6 i0)), (1, .int a1), (2, .int x2_12), (3, .int x3_12), (4, .int (x4_12 + 1))]) hl [2, 3, 4, 5, 0] rfl
          exact ih12 x2_12 x3_12 (x4_12 + 1) _ _ _ hF hw hl
        · skip
          have hF := hF.trans (if_neg c5)
          refine lv_iload hx hb dX3_bestTry_39 (lv_at hl 5 rfl) ?_
          refine lv_istore_n (lv' := [(2, .int x4_12), (5, .int r3), (0, .ref (Z.1 6 i0)), (1, .int a1), (3, .int x3_12), (4, .int x4_12)]) hx hb dX3_bestTry_41 rfl hl (by decide) rfl (fun ls hl => ?_)
          refine lv_iload hx hb dX3_bestTry_42 (lv_at hl 1 rfl) ?_
          refine lv_istore_n (lv' := [(3, .int r3), (2, .int x4_12), (5, .int r3), (0, .ref (Z.1 6 i0)), (1, .int a1), (4, .int x4_12)]) hx hb dX3_bestTry_44 rfl hl (by decide) rfl (fun ls hl => ?_)
          refine lv_iinc (v := x4_12 + 1) (lv' := [(4, .int (x4_12 + 1)), (3, .int r3), (2, .int x4_12), (5, .int r3), (0, .ref (Z.1 6 i0)), (1, .int a1)]) hx hb dX3_bestTry_45 hl (k := 5) rfl rfl (by decide) rfl (fun ls hl => ?_)
          refine lv_goto (tgt := 12) hx hb dX3_bestTry_48 (by decide) ?_
          have hl := lv_sub (l' := [(0, .ref (Z.1 6 i0)), (1, .int a1), (2, .int x4_12), (3, .int r3), (4, .int (x4_12 + 1))]) hl [4, 5, 2, 1, 0] rfl
          exact ih12 x4_12 r3 (x4_12 + 1) _ _ _ hF hw hl
  refine lv_iconst (v := 0) hx hb dX3_bestTry_0 (by decide) ?_
  refine lv_istore_n (lv' := [(2, .int 0), (0, .ref (Z.1 6 i0)), (1, .int a1)]) hx hb dX3_bestTry_1 rfl hl (by decide) rfl (fun ls hl => ?_)
  refine lv_aload_n hx hb dX3_bestTry_2 rfl (lv_at hl 1 rfl) ?_
  refine lv_iconst (v := 0) hx hb dX3_bestTry_3 (by decide) ?_
  refine lv_iload_n hx hb dX3_bestTry_4 rfl (lv_at hl 2 rfl) ?_
  have hs6 : g_X3_leftAtWorst v i0 0 a1 ≠ none := fun q => hs (hF.trans (kb_n q _))
  refine km_cS (As := [.ref (Z.1 6 i0), .int 0, .int a1]) (rest := []) (n := 3) ⟨hx, hb, hml, hown, hts⟩ (d_X3_leftAtWorst l E Z v i0 h_i0 0 a1 hs6) gX3_bestTry_X3_leftAtWorst rfl hV_X3_leftAtWorst ⟨Nat.le_of_ble_eq_true rfl, Nat.le_of_ble_eq_true rfl⟩ hK hw rfl hl.1 rfl (Nat.le_of_ble_eq_true rfl) dX3_bestTry_5 rfl rfl (fun r7 v8 H locs hp hw => ?_)
  obtain ⟨hp, rfl⟩ := hp
  have hF := hF.trans (kb_some hp _)
  refine lv_istore_n (lv' := [(3, .int r7), (2, .int 0), (0, .ref (Z.1 6 i0)), (1, .int a1)]) hx hb dX3_bestTry_8 rfl hl (by decide) rfl (fun ls hl => ?_)
  refine lv_iconst (v := 1) hx hb dX3_bestTry_9 (by decide) ?_
  refine lv_istore (lv' := [(4, .int 1), (3, .int r7), (2, .int 0), (0, .ref (Z.1 6 i0)), (1, .int a1)]) hx hb dX3_bestTry_10 hl (by decide) rfl (fun ls hl => ?_)
  have hl := lv_sub (l' := [(0, .ref (Z.1 6 i0)), (1, .int a1), (2, .int 0), (3, .int r7), (4, .int 1)]) hl [3, 4, 2, 1, 0] rfl
  exact loop12 2000 0 r7 1 _ _ _ hF hw hl
abbrev rmX3_menToSplit : Room := { frames := 1, cells := 0, slots := 0, locals := 40 }
def b_X3_menToSplit_L7  (rec7 : Int32 → Int32 → Option (Int32)) (v : Mm) (a1 : Int32) (a2 : Int32) (x3_7 : Int32) (x4_7 : Int32) : Option (Int32) := if a2 ≤ x4_7 then (some x3_7) else (if x4_7 < 0 ∨ 36 ≤ Int32.toNatClampNeg x4_7 then none else (Option.bind (some (a1 &&& (v 19 0 (Int32.toNatClampNeg x4_7)))) (fun x3 => if x3 = 0 then (rec7 x3_7 (x4_7 + 1)) else (if x3 = a1 then (rec7 x3_7 (x4_7 + 1)) else (if x3 < 0 ∨ 64 ≤ Int32.toNatClampNeg x3 then none else (if a1 ^^^ x3 < 0 ∨ 64 ≤ Int32.toNatClampNeg (a1 ^^^ x3) then none else (Option.bind (some (if v 20 0 (Int32.toNatClampNeg x3) < v 20 0 (Int32.toNatClampNeg (a1 ^^^ x3)) then v 20 0 (Int32.toNatClampNeg (a1 ^^^ x3)) else v 20 0 (Int32.toNatClampNeg x3))) (fun x8 => Option.bind (some (if (1 : Int32) + x8 < x3_7 then (1 : Int32) + x8 else x3_7)) (fun x9 => rec7 x9 (x4_7 + 1))))))))))
def g_X3_menToSplit_L7  (v : Mm) (a1 : Int32) (a2 : Int32) : Nat → Int32 → Int32 → Option (Int32)
  | 0 => fun _ _ => none
  | n + 1 => b_X3_menToSplit_L7  (g_X3_menToSplit_L7  v a1 a2 n) v a1 a2
def g_X3_menToSplit (v : Mm) (a1 : Int32) (a2 : Int32) : Option (Int32) := g_X3_menToSplit_L7  v a1 a2 2000 1000 0
set_option maxHeartbeats 4000000 in
set_option maxRecDepth 100000 in
theorem d_X3_menToSplit (l : Launch) (E : kq_T) (Z : km_Z) (v : Mm) (a1 : Int32) (a2 : Int32) (hs : g_X3_menToSplit v a1 a2 ≠ none) : km_I l E Z cntX yX3_menToSplit wsX3_menToSplit rmX3_menToSplit [.ref (Z.1 18 0), .int a1, .int a2] v (fun r v1 => g_X3_menToSplit v a1 a2 = some r ∧ v = v1) := by
  refine km_goI (cc := cX3_menToSplit) (maxL := 6) (by decide) rfl (Nat.le_of_ble_eq_true rfl) rfl rfl rfl ?_
  intro p e s m below meth c A ls Q C hK hw hl hret
  obtain ⟨hx, hb, hml, hown, hts, -, -, -⟩ := C
  have hown : s.vm.findClass RX3 = some m.cls := hown
  have hl : lv_has ls 6 [(0, .ref (Z.1 18 0)), (1, .int a1), (2, .int a2)] := hl
  have hF := g_X3_menToSplit.eq_1 v a1 a2
  have loop7 : ∀ (n7 : Nat) (x3_7 : Int32) (x4_7 : Int32) (H : Heap) (locs : List Loc) (ls : Array Slot), g_X3_menToSplit v a1 a2 = g_X3_menToSplit_L7  v a1 a2 n7 x3_7 x4_7 → km_w E A s.heap [] Z cntX v H locs → lv_has ls 6 [(0, .ref (Z.1 18 0)), (1, .int a1), (2, .int a2), (3, .int x3_7), (4, .int x4_7)] → W p l e rmX3_menToSplit s m [.ref (Z.1 18 0), .int a1, .int a2].toArray below meth c H locs 0 0 Q (F0 m 7 ls []) := by
    intro n7
    induction n7 with
    | zero => intro x3_7 x4_7 H locs ls hF hw hl; exact absurd (show g_X3_menToSplit v a1 a2 = none from hF) hs
    | succ n7 ih7 =>
      intro x3_7 x4_7 H locs ls hF hw hl
      have hF := hF.trans (b_X3_menToSplit_L7.eq_1  (g_X3_menToSplit_L7  v a1 a2 n7) v a1 a2 x3_7 x4_7)
      refine lv_iload hx hb dX3_menToSplit_7 (lv_at hl 4 rfl) ?_
      refine lv_iload_n hx hb dX3_menToSplit_9 rfl (lv_at hl 2 rfl) ?_
      refine lv_icmp_ge (tgt := 67) hx hb dX3_menToSplit_10 (by decide) (fun c1 => ?_) (fun c1 => ?_)
      · skip
        have hF := hF.trans (if_pos c1)
        refine lv_iload_n hx hb dX3_menToSplit_67 rfl (lv_at hl 3 rfl) ?_
        exact hret _ _ _ _ _ _ hw dX3_menToSplit_68 ⟨hF, rfl⟩
      · skip
        have hF := hF.trans (if_neg c1)
        refine lv_iload_n hx hb dX3_menToSplit_13 rfl (lv_at hl 1 rfl) ?_
        refine lv_aload_n hx hb dX3_menToSplit_14 rfl (lv_at hl 0 rfl) ?_
        refine km_get (ci := 3) (C := RX3) (T := TX3) (N := 2) (t := 18) (i := 0) hx hb hts fi_X3_menToSplit_X3 hown hK hw (by decide) (by decide) rfl rfl 0 (by decide) (hts (.fieldLink RX3 9 "WrongWord$Guesses" "catching" "[I") ow_X3_menToSplit_9) rfl dX3_menToSplit_15 ?_
        refine lv_iload hx hb dX3_menToSplit_18 (lv_at hl 4 rfl) ?_
        have hb2 : ¬ (x4_7 < 0 ∨ 36 ≤ Int32.toNatClampNeg x4_7) := fun q => hs (hF.trans (if_pos q))
        have hF := hF.trans (if_neg hb2)
        refine km_iald (t := 19) (i := 0) hx hb hK hw (by decide) (by decide) rfl hb2 dX3_menToSplit_20 ?_
        refine lv_iand hx hb dX3_menToSplit_21 ?_
        refine lv_topi (fun x3 ex3 => ?_)
        have hF := hF.trans (kb_some (congrArg some ex3.symm) _)
        refine lv_istore (lv' := [(5, .int x3), (0, .ref (Z.1 18 0)), (1, .int a1), (2, .int a2), (3, .int x3_7), (4, .int x4_7)]) hx hb dX3_menToSplit_22 hl (by decide) rfl (fun ls hl => ?_)
        refine lv_iload hx hb dX3_menToSplit_24 (lv_at hl 0 rfl) ?_
        refine lv_if_eq (tgt := 61) hx hb dX3_menToSplit_26 (by decide) (fun c4 => ?_) (fun c4 => ?_)
        · skip
          have hF := hF.trans (if_pos c4)
          refine lv_iinc (v := x4_7 + 1) (lv' := [(4, .int (x4_7 + 1)), (5, .int x3), (0, .ref (Z.1 18 0)), (1, .int a1), (2, .int a2), (3, .int x3_7)]) hx hb dX3_menToSplit_61 hl (k := 5) rfl rfl (by decide) rfl (fun ls hl => ?_)
          refine lv_goto (tgt := 7) hx hb dX3_menToSplit_64 (by decide) ?_
          have hl := lv_sub (l' := [(0, .ref (Z.1 18 0)), (1, .int a1), (2, .int a2), (3, .int x3_7), (4, .int (x4_7 + 1))]) hl [2, 3, 4, 5, 0] rfl
          exact ih7 x3_7 (x4_7 + 1) _ _ _ hF hw hl
        · skip
          have hF := hF.trans (if_neg c4)
          refine lv_iload hx hb dX3_menToSplit_29 (lv_at hl 0 rfl) ?_
          refine lv_iload_n hx hb dX3_menToSplit_31 rfl (lv_at hl 2 rfl) ?_
          refine lv_icmp_eq (tgt := 61) hx hb dX3_menToSplit_32 (by decide) (fun c5 => ?_) (fun c5 => ?_)
          · skip
            have hF := hF.trans (if_pos c5)
            refine lv_iinc (v := x4_7 + 1) (lv' := [(4, .int (x4_7 + 1)), (5, .int x3), (0, .ref (Z.1 18 0)), (1, .int a1), (2, .int a2), (3, .int x3_7)]) hx hb dX3_menToSplit_61 hl (k := 5) rfl rfl (by decide) rfl (fun ls hl => ?_)
            refine lv_goto (tgt := 7) hx hb dX3_menToSplit_64 (by decide) ?_
            have hl := lv_sub (l' := [(0, .ref (Z.1 18 0)), (1, .int a1), (2, .int a2), (3, .int x3_7), (4, .int (x4_7 + 1))]) hl [2, 3, 4, 5, 0] rfl
            exact ih7 x3_7 (x4_7 + 1) _ _ _ hF hw hl
          · skip
            have hF := hF.trans (if_neg c5)
            refine lv_iload_n hx hb dX3_menToSplit_35 rfl (lv_at hl 4 rfl) ?_
            refine lv_iconst (v := 1) hx hb dX3_menToSplit_36 (by decide) ?_
            refine lv_aload_n hx hb dX3_menToSplit_37 rfl (lv_at hl 1 rfl) ?_
            refine km_get (ci := 3) (C := RX3) (T := TX3) (N := 2) (t := 18) (i := 0) hx hb hts fi_X3_menToSplit_X3 hown hK hw (by decide) (by decide) rfl rfl 1 (by decide) (hts (.fieldLink RX3 15 "WrongWord$Guesses" "menFor" "[I") ow_X3_menToSplit_15) rfl dX3_menToSplit_38 ?_
            refine lv_iload hx hb dX3_menToSplit_41 (lv_at hl 0 rfl) ?_
            have hb6 : ¬ (x3 < 0 ∨ 64 ≤ Int32.toNatClampNeg x3) := fun q => hs (hF.trans (if_pos q))
            have hF := hF.trans (if_neg hb6)
            refine km_iald (t := 20) (i := 0) hx hb hK hw (by decide) (by decide) rfl hb6 dX3_menToSplit_43 ?_
            refine lv_aload_n hx hb dX3_menToSplit_44 rfl (lv_at hl 1 rfl) ?_
            refine km_get (ci := 3) (C := RX3) (T := TX3) (N := 2) (t := 18) (i := 0) hx hb hts fi_X3_menToSplit_X3 hown hK hw (by decide) (by decide) rfl rfl 1 (by decide) (hts (.fieldLink RX3 15 "WrongWord$Guesses" "menFor" "[I") ow_X3_menToSplit_15) rfl dX3_menToSplit_45 ?_
            refine lv_iload_n hx hb dX3_menToSplit_48 rfl (lv_at hl 2 rfl) ?_
            refine lv_iload hx hb dX3_menToSplit_49 (lv_at hl 0 rfl) ?_
            refine lv_ixor hx hb dX3_menToSplit_51 ?_
            have hb7 : ¬ (a1 ^^^ x3 < 0 ∨ 64 ≤ Int32.toNatClampNeg (a1 ^^^ x3)) := fun q => hs (hF.trans (if_pos q))
            have hF := hF.trans (if_neg hb7)
            refine km_iald (t := 20) (i := 0) hx hb hK hw (by decide) (by decide) rfl hb7 dX3_menToSplit_52 ?_
            refine va_mmax hx hb (hml.trans hl.1.symm) hown (hts (.methodLink RX3 76 Lib.Math.max.name) (by decide +kernel)) (hts (.static Lib.Math.max.name) (by decide +kernel)) (hts (.initialized "java/lang/Math") (by decide +kernel)) (hts (.code Lib.Math.max.name Lib.Math.max.code 2 (some .int)) (by decide +kernel)) (Nat.le_of_ble_eq_true rfl) (Nat.le_of_ble_eq_true rfl) (Nat.zero_le _) (Nat.zero_le _) dX3_menToSplit_53 ?_
            refine lv_topi (fun x8 ex8 => ?_)
            have hF := hF.trans (kb_some (congrArg some ex8.symm) _)
            refine lv_iadd hx hb dX3_menToSplit_56 ?_
            refine va_mmin hx hb (hml.trans hl.1.symm) hown (hts (.methodLink RX3 89 Lib.Math.min.name) (by decide +kernel)) (hts (.static Lib.Math.min.name) (by decide +kernel)) (hts (.initialized "java/lang/Math") (by decide +kernel)) (hts (.code Lib.Math.min.name Lib.Math.min.code 2 (some .int)) (by decide +kernel)) (Nat.le_of_ble_eq_true rfl) (Nat.le_of_ble_eq_true rfl) (Nat.zero_le _) (Nat.zero_le _) dX3_menToSplit_57 ?_
            refine lv_topi (fun x9 ex9 => ?_)
            have hF := hF.trans (kb_some (congrArg some ex9.symm) _)
            refine lv_istore_n (lv' := [(3, .int x9), (5, .int x3), (0, .ref (Z.1 18 0)), (1, .int a1), (2, .int a2), (4, .int x4_7)]) hx hb dX3_menToSplit_60 rfl hl (by decide) rfl (fun ls hl => ?_)
            refine lv_iinc (v := x4_7 + 1) (lv' := [(4, .int (x4_7 + 1)), (3, .int x9), (5, .int x3), (0, .ref (Z.1 18 0)), (1, .int a1), (2, .int a2)]) hx hb dX3_menToSplit_61 hl (k := 5) rfl rfl (by decide) rfl (fun ls hl => ?_)
            refine lv_goto (tgt := 7) hx hb dX3_menToSplit_64 (by decide) ?_
            have hl := lv_sub (l' := [(0, .ref (Z.1 18 0)), (1, .int a1), (2, .int a2), (3, .int x9), (4, .int (x4_7 + 1))]) hl [3, 4, 5, 1, 0] rfl
            exact ih7 x9 (x4_7 + 1) _ _ _ hF hw hl
  refine lv_sipush (v := 1000) hx hb dX3_menToSplit_0 (by decide) ?_
  refine lv_istore_n (lv' := [(3, .int 1000), (0, .ref (Z.1 18 0)), (1, .int a1), (2, .int a2)]) hx hb dX3_menToSplit_3 rfl hl (by decide) rfl (fun ls hl => ?_)
  refine lv_iconst (v := 0) hx hb dX3_menToSplit_4 (by decide) ?_
  refine lv_istore (lv' := [(4, .int 0), (3, .int 1000), (0, .ref (Z.1 18 0)), (1, .int a1), (2, .int a2)]) hx hb dX3_menToSplit_5 hl (by decide) rfl (fun ls hl => ?_)
  have hl := lv_sub (l' := [(0, .ref (Z.1 18 0)), (1, .int a1), (2, .int a2), (3, .int 1000), (4, .int 0)]) hl [2, 3, 4, 1, 0] rfl
  exact loop7 2000 1000 0 _ _ _ hF hw hl
abbrev rmX3_fewestMen : Room := { frames := 4, cells := 0, slots := 0, locals := 97 }
def b_X3_fewestMen_L47  (rec47 : Mm → Int32 → Int32 → Option (Int32 × Mm)) (i1 : Nat) (a2 : Int32) (w47 : Mm) (x3_47 : Int32) (x4_47 : Int32) : Option (Int32 × Mm) := if (1 : Int32) <<< ((w47 6 i1 6) &&& 31) ≤ x4_47 then (if a2 < 0 ∨ 64 ≤ Int32.toNatClampNeg a2 then none else (if 1000 ≤ w47 20 0 (Int32.toNatClampNeg a2) then (some ((-1000000), w47)) else (if a2 < 0 ∨ 64 ≤ Int32.toNatClampNeg a2 then none else (some (w47 20 0 (Int32.toNatClampNeg a2), w47))))) else (Option.bind (g_J6_bitCount_0f7a4 w47 x4_47) (fun r7 => if 1 < r7 then (Option.bind (g_X3_menToSplit w47 x4_47 x3_47) (fun r11 => if x4_47 < 0 ∨ 64 ≤ Int32.toNatClampNeg x4_47 then none else (Option.bind (some (up3 w47 20 0 (Int32.toNatClampNeg x4_47) r11)) (fun v14 => rec47 v14 x3_47 (x4_47 + 1))))) else (if x4_47 < 0 ∨ 64 ≤ Int32.toNatClampNeg x4_47 then none else (Option.bind (some (up3 w47 20 0 (Int32.toNatClampNeg x4_47) 0)) (fun v16 => rec47 v16 x3_47 (x4_47 + 1))))))
def g_X3_fewestMen_L47  (i1 : Nat) (a2 : Int32) : Nat → Mm → Int32 → Int32 → Option (Int32 × Mm)
  | 0 => fun _ _ _ => none
  | n + 1 => b_X3_fewestMen_L47  (g_X3_fewestMen_L47  i1 a2 n) i1 a2
def b_X3_fewestMen_L11  (rec11 : Mm → Int32 → Int32 → Option (Int32 × Mm)) (i1 : Nat) (a2 : Int32) (w11 : Mm) (x3_11 : Int32) (x4_11 : Int32) : Option (Int32 × Mm) := if x3_11 ≤ x4_11 then (g_X3_fewestMen_L47  i1 a2 2000 w11 x3_11 0) else (Option.bind (g_X3_secretsCatching w11 i1 (x4_11 / 6) (x4_11 - x4_11 / 6 * 6)) (fun r3 => if x4_11 < 0 ∨ 36 ≤ Int32.toNatClampNeg x4_11 then none else (Option.bind (some (up3 w11 19 0 (Int32.toNatClampNeg x4_11) r3)) (fun v6 => rec11 v6 x3_11 (x4_11 + 1)))))
def g_X3_fewestMen_L11  (i1 : Nat) (a2 : Int32) : Nat → Mm → Int32 → Int32 → Option (Int32 × Mm)
  | 0 => fun _ _ _ => none
  | n + 1 => b_X3_fewestMen_L11  (g_X3_fewestMen_L11  i1 a2 n) i1 a2
def g_X3_fewestMen (v : Mm) (i1 : Nat) (a2 : Int32) : Option (Int32 × Mm) := g_X3_fewestMen_L11  i1 a2 2000 v ((v 6 i1 6) * 6) 0
set_option maxHeartbeats 4000000 in
set_option maxRecDepth 100000 in
theorem d_X3_fewestMen (l : Launch) (E : kq_T) (Z : km_Z) (v : Mm) (i1 : Nat) (h_i1 : i1 < cntX 6) (a2 : Int32) (hs : g_X3_fewestMen v i1 a2 ≠ none) : km_I l E Z cntX yX3_fewestMen wsX3_fewestMen rmX3_fewestMen [.ref (Z.1 18 0), .ref (Z.1 6 i1), .int a2] v (fun r v1 => g_X3_fewestMen v i1 a2 = some (r, v1)) := by
  refine km_goI (cc := cX3_fewestMen) (maxL := 5) (by decide) rfl (Nat.le_of_ble_eq_true rfl) rfl rfl rfl ?_
  intro p e s m below meth c A ls Q C hK hw hl hret
  obtain ⟨hx, hb, hml, hown, hts, -, -, -⟩ := C
  have hown : s.vm.findClass RX3 = some m.cls := hown
  have hl : lv_has ls 5 [(0, .ref (Z.1 18 0)), (1, .ref (Z.1 6 i1)), (2, .int a2)] := hl
  have hF := g_X3_fewestMen.eq_1 v i1 a2
  have loop47 : ∀ (n47 : Nat) (w47 : Mm) (x3_47 : Int32) (x4_47 : Int32) (H : Heap) (locs : List Loc) (ls : Array Slot), g_X3_fewestMen v i1 a2 = g_X3_fewestMen_L47  i1 a2 n47 w47 x3_47 x4_47 → km_w E A s.heap [] Z cntX w47 H locs → lv_has ls 5 [(0, .ref (Z.1 18 0)), (1, .ref (Z.1 6 i1)), (2, .int a2), (3, .int x3_47), (4, .int x4_47)] → W p l e rmX3_fewestMen s m [.ref (Z.1 18 0), .ref (Z.1 6 i1), .int a2].toArray below meth c H locs 0 0 Q (F0 m 47 ls []) := by
    intro n47
    induction n47 with
    | zero => intro w47 x3_47 x4_47 H locs ls hF hw hl; exact absurd (show g_X3_fewestMen v i1 a2 = none from hF) hs
    | succ n47 ih47 =>
      intro w47 x3_47 x4_47 H locs ls hF hw hl
      have hF := hF.trans (b_X3_fewestMen_L47.eq_1  (g_X3_fewestMen_L47  i1 a2 n47) i1 a2 w47 x3_47 x4_47)
      refine lv_iload hx hb dX3_fewestMen_47 (lv_at hl 4 rfl) ?_
      refine lv_iconst (v := 1) hx hb dX3_fewestMen_49 (by decide) ?_
      refine lv_aload_n hx hb dX3_fewestMen_50 rfl (lv_at hl 1 rfl) ?_
      refine km_get (ci := 2) (C := RX2) (T := TX2) (N := 8) (t := 6) (i := i1) hx hb hts fi_X3_fewestMen_X2 hown hK hw (by decide) h_i1 rfl rfl 6 (by decide) (hts (.fieldLink RX3 18 "WrongWord$Gate" "words" "I") ow_X3_fewestMen_18) rfl dX3_fewestMen_51 ?_
      refine lv_ishl hx hb dX3_fewestMen_54 ?_
      refine lv_icmp_ge (tgt := 91) hx hb dX3_fewestMen_55 (by decide) (fun c1 => ?_) (fun c1 => ?_)
      · skip
        have hF := hF.trans (if_pos c1)
        refine lv_aload_n hx hb dX3_fewestMen_91 rfl (lv_at hl 0 rfl) ?_
        refine km_get (ci := 3) (C := RX3) (T := TX3) (N := 2) (t := 18) (i := 0) hx hb hts fi_X3_fewestMen_X3 hown hK hw (by decide) (by decide) rfl rfl 1 (by decide) (hts (.fieldLink RX3 15 "WrongWord$Guesses" "menFor" "[I") ow_X3_fewestMen_15) rfl dX3_fewestMen_92 ?_
        refine lv_iload_n hx hb dX3_fewestMen_95 rfl (lv_at hl 2 rfl) ?_
        have hb2 : ¬ (a2 < 0 ∨ 64 ≤ Int32.toNatClampNeg a2) := fun q => hs (hF.trans (if_pos q))
        have hF := hF.trans (if_neg hb2)
        refine km_iald (t := 20) (i := 0) hx hb hK hw (by decide) (by decide) rfl hb2 dX3_fewestMen_96 ?_
        refine lv_sipush (v := 1000) hx hb dX3_fewestMen_97 (by decide) ?_
        refine lv_icmp_ge (tgt := 112) hx hb dX3_fewestMen_100 (by decide) (fun c3 => ?_) (fun c3 => ?_)
        · skip
          have hF := hF.trans (if_pos c3)
          refine lv_ldc (v := (-1000000)) hx hb hown (hts (.constant RX3 88 (-1000000)) ow_X3_fewestMen_88) dX3_fewestMen_112 ?_
          exact hret _ _ _ _ _ _ hw dX3_fewestMen_114 hF
        · skip
          have hF := hF.trans (if_neg c3)
          refine lv_aload_n hx hb dX3_fewestMen_103 rfl (lv_at hl 0 rfl) ?_
          refine km_get (ci := 3) (C := RX3) (T := TX3) (N := 2) (t := 18) (i := 0) hx hb hts fi_X3_fewestMen_X3 hown hK hw (by decide) (by decide) rfl rfl 1 (by decide) (hts (.fieldLink RX3 15 "WrongWord$Guesses" "menFor" "[I") ow_X3_fewestMen_15) rfl dX3_fewestMen_104 ?_
          refine lv_iload_n hx hb dX3_fewestMen_107 rfl (lv_at hl 2 rfl) ?_
          have hb4 : ¬ (a2 < 0 ∨ 64 ≤ Int32.toNatClampNeg a2) := fun q => hs (hF.trans (if_pos q))
          have hF := hF.trans (if_neg hb4)
          refine km_iald (t := 20) (i := 0) hx hb hK hw (by decide) (by decide) rfl hb4 dX3_fewestMen_108 ?_
          refine lv_goto (tgt := 114) hx hb dX3_fewestMen_109 (by decide) ?_
          exact hret _ _ _ _ _ _ hw dX3_fewestMen_114 hF
      · skip
        have hF := hF.trans (if_neg c1)
        refine lv_aload_n hx hb dX3_fewestMen_58 rfl (lv_at hl 0 rfl) ?_
        refine km_get (ci := 3) (C := RX3) (T := TX3) (N := 2) (t := 18) (i := 0) hx hb hts fi_X3_fewestMen_X3 hown hK hw (by decide) (by decide) rfl rfl 1 (by decide) (hts (.fieldLink RX3 15 "WrongWord$Guesses" "menFor" "[I") ow_X3_fewestMen_15) rfl dX3_fewestMen_59 ?_
        refine lv_iload hx hb dX3_fewestMen_62 (lv_at hl 4 rfl) ?_
        refine lv_iload hx hb dX3_fewestMen_64 (lv_at hl 4 rfl) ?_
        have hs5 : g_J6_bitCount_0f7a4 w47 x4_47 ≠ none := fun q => hs (hF.trans (kb_n q _))
        refine km_cSJ (As := [.int x4_47]) (rest := [.int x4_47, .ref (Z.1 20 0)]) (n := 1) ⟨hx, hb, hml, hown, hts⟩ (d_J6_bitCount_0f7a4 l E Z w47 x4_47 hs5) gX3_fewestMen_J6_bitCount_0f7a4 rfl hS_J6_bitCount_0f7a4 ⟨Nat.le_of_ble_eq_true rfl, Nat.le_of_ble_eq_true rfl⟩ hK hw rfl hl.1 rfl (Nat.le_of_ble_eq_true rfl) dX3_fewestMen_66 rfl rfl (fun r6 v7 H locs hp hw => ?_)
        obtain ⟨hp, rfl⟩ := hp
        have hF := hF.trans (kb_some hp _)
        refine lv_iconst (v := 1) hx hb dX3_fewestMen_69 (by decide) ?_
        refine lv_icmp_gt (tgt := 77) hx hb dX3_fewestMen_70 (by decide) (fun c8 => ?_) (fun c8 => ?_)
        · skip
          have hF := hF.trans (if_pos c8)
          refine lv_aload_n hx hb dX3_fewestMen_77 rfl (lv_at hl 0 rfl) ?_
          refine lv_iload hx hb dX3_fewestMen_78 (lv_at hl 4 rfl) ?_
          refine lv_iload_n hx hb dX3_fewestMen_80 rfl (lv_at hl 3 rfl) ?_
          have hs9 : g_X3_menToSplit w47 x4_47 x3_47 ≠ none := fun q => hs (hF.trans (kb_n q _))
          refine km_cI (As := [.int x4_47, .int x3_47]) (rest := [.int x4_47, .ref (Z.1 20 0)]) (n := 2) (q := (RX3, TX3, 2)) (ci := 3) (t := 18) (i := 0) ⟨hx, hb, hml, hown, hts⟩ (d_X3_menToSplit l E Z w47 x4_47 x3_47 hs9) gX3_fewestMen_X3_menToSplit rfl hV_X3_menToSplit ⟨Nat.le_of_ble_eq_true rfl, Nat.le_of_ble_eq_true rfl⟩ hK hw (by decide) (by decide) rfl rfl rfl hl.1 rfl (Nat.le_of_ble_eq_true rfl) dX3_fewestMen_81 rfl rfl (fun r10 v11 H locs hp hw => ?_)
          obtain ⟨hp, rfl⟩ := hp
          have hF := hF.trans (kb_some hp _)
          have hb12 : ¬ (x4_47 < 0 ∨ 64 ≤ Int32.toNatClampNeg x4_47) := fun q => hs (hF.trans (if_pos q))
          have hF := hF.trans (if_neg hb12)
          refine km_iast (t := 20) (i := 0) (n := 64) hx hb hK hw (by decide) (by decide) (fun _ => rfl) hb12 dX3_fewestMen_84 (fun H locs hw => ?_)
          obtain ⟨v13, ev13⟩ : ∃ z, z = up3 w47 20 0 (Int32.toNatClampNeg x4_47) r10 := ⟨_, rfl⟩
          rw [← ev13] at hw
          have hF := hF.trans (kb_some (congrArg some ev13.symm) _)
          refine lv_iinc (v := x4_47 + 1) (lv' := [(4, .int (x4_47 + 1)), (0, .ref (Z.1 18 0)), (1, .ref (Z.1 6 i1)), (2, .int a2), (3, .int x3_47)]) hx hb dX3_fewestMen_85 hl (k := 4) rfl rfl (by decide) rfl (fun ls hl => ?_)
          refine lv_goto (tgt := 47) hx hb dX3_fewestMen_88 (by decide) ?_
          have hl := lv_sub (l' := [(0, .ref (Z.1 18 0)), (1, .ref (Z.1 6 i1)), (2, .int a2), (3, .int x3_47), (4, .int (x4_47 + 1))]) hl [1, 2, 3, 4, 0] rfl
          exact ih47 v13 x3_47 (x4_47 + 1) _ _ _ hF hw hl
        · skip
          have hF := hF.trans (if_neg c8)
          refine lv_iconst (v := 0) hx hb dX3_fewestMen_73 (by decide) ?_
          refine lv_goto (tgt := 84) hx hb dX3_fewestMen_74 (by decide) ?_
          have hb14 : ¬ (x4_47 < 0 ∨ 64 ≤ Int32.toNatClampNeg x4_47) := fun q => hs (hF.trans (if_pos q))
          have hF := hF.trans (if_neg hb14)
          refine km_iast (t := 20) (i := 0) (n := 64) hx hb hK hw (by decide) (by decide) (fun _ => rfl) hb14 dX3_fewestMen_84 (fun H locs hw => ?_)
          obtain ⟨v15, ev15⟩ : ∃ z, z = up3 w47 20 0 (Int32.toNatClampNeg x4_47) 0 := ⟨_, rfl⟩
          rw [← ev15] at hw
          have hF := hF.trans (kb_some (congrArg some ev15.symm) _)
          refine lv_iinc (v := x4_47 + 1) (lv' := [(4, .int (x4_47 + 1)), (0, .ref (Z.1 18 0)), (1, .ref (Z.1 6 i1)), (2, .int a2), (3, .int x3_47)]) hx hb dX3_fewestMen_85 hl (k := 4) rfl rfl (by decide) rfl (fun ls hl => ?_)
          refine lv_goto (tgt := 47) hx hb dX3_fewestMen_88 (by decide) ?_
          have hl := lv_sub (l' := [(0, .ref (Z.1 18 0)), (1, .ref (Z.1 6 i1)), (2, .int a2), (3, .int x3_47), (4, .int (x4_47 + 1))]) hl [1, 2, 3, 4, 0] rfl
          exact ih47 v15 x3_47 (x4_47 + 1) _ _ _ hF hw hl
  have loop11 : ∀ (n11 : Nat) (w11 : Mm) (x3_11 : Int32) (x4_11 : Int32) (H : Heap) (locs : List Loc) (ls : Array Slot), g_X3_fewestMen v i1 a2 = g_X3_fewestMen_L11  i1 a2 n11 w11 x3_11 x4_11 → km_w E A s.heap [] Z cntX w11 H locs → lv_has ls 5 [(0, .ref (Z.1 18 0)), (1, .ref (Z.1 6 i1)), (2, .int a2), (3, .int x3_11), (4, .int x4_11)] → W p l e rmX3_fewestMen s m [.ref (Z.1 18 0), .ref (Z.1 6 i1), .int a2].toArray below meth c H locs 0 0 Q (F0 m 11 ls []) := by
    intro n11
    induction n11 with
    | zero => intro w11 x3_11 x4_11 H locs ls hF hw hl; exact absurd (show g_X3_fewestMen v i1 a2 = none from hF) hs
    | succ n11 ih11 =>
      intro w11 x3_11 x4_11 H locs ls hF hw hl
      have hF := hF.trans (b_X3_fewestMen_L11.eq_1  (g_X3_fewestMen_L11  i1 a2 n11) i1 a2 w11 x3_11 x4_11)
      refine lv_iload hx hb dX3_fewestMen_11 (lv_at hl 4 rfl) ?_
      refine lv_iload_n hx hb dX3_fewestMen_13 rfl (lv_at hl 3 rfl) ?_
      refine lv_icmp_ge (tgt := 44) hx hb dX3_fewestMen_14 (by decide) (fun c16 => ?_) (fun c16 => ?_)
      · skip
        have hF := hF.trans (if_pos c16)
        refine lv_iconst (v := 0) hx hb dX3_fewestMen_44 (by decide) ?_
        refine lv_istore (lv' := [(4, .int 0), (0, .ref (Z.1 18 0)), (1, .ref (Z.1 6 i1)), (2, .int a2), (3, .int x3_11)]) hx hb dX3_fewestMen_45 hl (by decide) rfl (fun ls hl => ?_)
        have hl := lv_sub (l' := [(0, .ref (Z.1 18 0)), (1, .ref (Z.1 6 i1)), (2, .int a2), (3, .int x3_11), (4, .int 0)]) hl [1, 2, 3, 4, 0] rfl
        exact loop47 2000 w11 x3_11 0 _ _ _ hF hw hl
      · skip
        have hF := hF.trans (if_neg c16)
        refine lv_aload_n hx hb dX3_fewestMen_17 rfl (lv_at hl 0 rfl) ?_
        refine km_get (ci := 3) (C := RX3) (T := TX3) (N := 2) (t := 18) (i := 0) hx hb hts fi_X3_fewestMen_X3 hown hK hw (by decide) (by decide) rfl rfl 0 (by decide) (hts (.fieldLink RX3 9 "WrongWord$Guesses" "catching" "[I") ow_X3_fewestMen_9) rfl dX3_fewestMen_18 ?_
        refine lv_iload hx hb dX3_fewestMen_21 (lv_at hl 4 rfl) ?_
        refine lv_aload_n hx hb dX3_fewestMen_23 rfl (lv_at hl 1 rfl) ?_
        refine lv_iload hx hb dX3_fewestMen_24 (lv_at hl 4 rfl) ?_
        refine lv_bipush (v := 6) hx hb dX3_fewestMen_26 (by decide) ?_
        refine lv_idiv hx hb dX3_fewestMen_28 (by decide) ?_
        refine lv_iload hx hb dX3_fewestMen_29 (lv_at hl 4 rfl) ?_
        refine lv_bipush (v := 6) hx hb dX3_fewestMen_31 (by decide) ?_
        refine lv_irem hx hb dX3_fewestMen_33 (by decide) ?_
        have hs17 : g_X3_secretsCatching w11 i1 (x4_11 / 6) (x4_11 - x4_11 / 6 * 6) ≠ none := fun q => hs (hF.trans (kb_n q _))
        refine km_cS (As := [.ref (Z.1 6 i1), .int (x4_11 / 6), .int (x4_11 - x4_11 / 6 * 6)]) (rest := [.int x4_11, .ref (Z.1 19 0)]) (n := 3) ⟨hx, hb, hml, hown, hts⟩ (d_X3_secretsCatching l E Z w11 i1 h_i1 (x4_11 / 6) (x4_11 - x4_11 / 6 * 6) hs17) gX3_fewestMen_X3_secretsCatching rfl hV_X3_secretsCatching ⟨Nat.le_of_ble_eq_true rfl, Nat.le_of_ble_eq_true rfl⟩ hK hw rfl hl.1 rfl (Nat.le_of_ble_eq_true rfl) dX3_fewestMen_34 rfl rfl (fun r18 v19 H locs hp hw => ?_)
        obtain ⟨hp, rfl⟩ := hp
        have hF := hF.trans (kb_some hp _)
        have hb20 : ¬ (x4_11 < 0 ∨ 36 ≤ Int32.toNatClampNeg x4_11) := fun q => hs (hF.trans (if_pos q))
        have hF := hF.trans (if_neg hb20)
        refine km_iast (t := 19) (i := 0) (n := 36) hx hb hK hw (by decide) (by decide) (fun _ => rfl) hb20 dX3_fewestMen_37 (fun H locs hw => ?_)
        obtain ⟨v21, ev21⟩ : ∃ z, z = up3 w11 19 0 (Int32.toNatClampNeg x4_11) r18 := ⟨_, rfl⟩
        rw [← ev21] at hw
        have hF := hF.trans (kb_some (congrArg some ev21.symm) _)
        refine lv_iinc (v := x4_11 + 1) (lv' := [(4, .int (x4_11 + 1)), (0, .ref (Z.1 18 0)), (1, .ref (Z.1 6 i1)), (2, .int a2), (3, .int x3_11)]) hx hb dX3_fewestMen_38 hl (k := 4) rfl rfl (by decide) rfl (fun ls hl => ?_)
        refine lv_goto (tgt := 11) hx hb dX3_fewestMen_41 (by decide) ?_
        have hl := lv_sub (l' := [(0, .ref (Z.1 18 0)), (1, .ref (Z.1 6 i1)), (2, .int a2), (3, .int x3_11), (4, .int (x4_11 + 1))]) hl [1, 2, 3, 4, 0] rfl
        exact ih11 v21 x3_11 (x4_11 + 1) _ _ _ hF hw hl
  refine lv_aload_n hx hb dX3_fewestMen_0 rfl (lv_at hl 1 rfl) ?_
  refine km_get (ci := 2) (C := RX2) (T := TX2) (N := 8) (t := 6) (i := i1) hx hb hts fi_X3_fewestMen_X2 hown hK hw (by decide) h_i1 rfl rfl 6 (by decide) (hts (.fieldLink RX3 18 "WrongWord$Gate" "words" "I") ow_X3_fewestMen_18) rfl dX3_fewestMen_1 ?_
  refine lv_bipush (v := 6) hx hb dX3_fewestMen_4 (by decide) ?_
  refine lv_imul hx hb dX3_fewestMen_6 ?_
  refine lv_istore_n (lv' := [(3, .int ((v 6 i1 6) * 6)), (0, .ref (Z.1 18 0)), (1, .ref (Z.1 6 i1)), (2, .int a2)]) hx hb dX3_fewestMen_7 rfl hl (by decide) rfl (fun ls hl => ?_)
  refine lv_iconst (v := 0) hx hb dX3_fewestMen_8 (by decide) ?_
  refine lv_istore (lv' := [(4, .int 0), (3, .int ((v 6 i1 6) * 6)), (0, .ref (Z.1 18 0)), (1, .ref (Z.1 6 i1)), (2, .int a2)]) hx hb dX3_fewestMen_9 hl (by decide) rfl (fun ls hl => ?_)
  have hl := lv_sub (l' := [(0, .ref (Z.1 18 0)), (1, .ref (Z.1 6 i1)), (2, .int a2), (3, .int ((v 6 i1 6) * 6)), (4, .int 0)]) hl [2, 3, 4, 1, 0] rfl
  exact loop11 2000 v ((v 6 i1 6) * 6) 0 _ _ _ hF hw hl
abbrev rmX4_begin : Room := { frames := 0, cells := 0, slots := 0, locals := 0 }
def b_X4_begin_L21  (rec21 : Mm → Int32 → Option (Mm)) (i0 : Nat) (a1 : Int32) (w21 : Mm) (x2_21 : Int32) : Option (Mm) := if 4 ≤ x2_21 then (some w21) else (if x2_21 < 0 ∨ 4 ≤ Int32.toNatClampNeg x2_21 then none else (Option.bind (some (up3 w21 11 i0 (Int32.toNatClampNeg x2_21) 0)) (fun v6 => rec21 v6 (x2_21 + 1))))
def g_X4_begin_L21  (i0 : Nat) (a1 : Int32) : Nat → Mm → Int32 → Option (Mm)
  | 0 => fun _ _ => none
  | n + 1 => b_X4_begin_L21  (g_X4_begin_L21  i0 a1 n) i0 a1
def g_X4_begin (v : Mm) (i0 : Nat) (a1 : Int32) : Option (Mm) := Option.bind (some (up3 v 10 i0 4 0)) (fun v1 => Option.bind (some (up3 v1 10 i0 6 (((1 : Int32) <<< (a1 &&& 31)) - 1))) (fun v2 => Option.bind (some (up3 v2 10 i0 7 0)) (fun v3 => g_X4_begin_L21  i0 a1 2000 v3 0)))
set_option maxHeartbeats 4000000 in
set_option maxRecDepth 100000 in
theorem d_X4_begin (l : Launch) (E : kq_T) (Z : km_Z) (v : Mm) (i0 : Nat) (h_i0 : i0 < cntX 10) (a1 : Int32) (hs : g_X4_begin v i0 a1 ≠ none) : km_V l E Z cntX yX4_begin wsX4_begin rmX4_begin [.ref (Z.1 10 i0), .int a1] v (fun v1 => g_X4_begin v i0 a1 = some v1) := by
  refine km_goV (cc := cX4_begin) (maxL := 3) (by decide) rfl (Nat.le_of_ble_eq_true rfl) rfl rfl rfl ?_
  intro p e s m below meth c A ls Q C hK hw hl hret
  obtain ⟨hx, hb, hml, hown, hts, -, -, -⟩ := C
  have hown : s.vm.findClass RX4 = some m.cls := hown
  have hl : lv_has ls 3 [(0, .ref (Z.1 10 i0)), (1, .int a1)] := hl
  have hF := g_X4_begin.eq_1 v i0 a1
  have loop21 : ∀ (n21 : Nat) (w21 : Mm) (x2_21 : Int32) (H : Heap) (locs : List Loc) (ls : Array Slot), g_X4_begin v i0 a1 = g_X4_begin_L21  i0 a1 n21 w21 x2_21 → km_w E A s.heap [] Z cntX w21 H locs → lv_has ls 3 [(0, .ref (Z.1 10 i0)), (1, .int a1), (2, .int x2_21)] → W p l e rmX4_begin s m [.ref (Z.1 10 i0), .int a1].toArray below meth c H locs 0 0 Q (F0 m 21 ls []) := by
    intro n21
    induction n21 with
    | zero => intro w21 x2_21 H locs ls hF hw hl; exact absurd (show g_X4_begin v i0 a1 = none from hF) hs
    | succ n21 ih21 =>
      intro w21 x2_21 H locs ls hF hw hl
      have hF := hF.trans (b_X4_begin_L21.eq_1  (g_X4_begin_L21  i0 a1 n21) i0 a1 w21 x2_21)
      refine lv_iload_n hx hb dX4_begin_21 rfl (lv_at hl 2 rfl) ?_
      refine lv_iconst (v := 4) hx hb dX4_begin_22 (by decide) ?_
      refine lv_icmp_ge (tgt := 39) hx hb dX4_begin_23 (by decide) (fun c1 => ?_) (fun c1 => ?_)
      · skip
        have hF := hF.trans (if_pos c1)
        exact hret _ _ _ _ _ hw dX4_begin_39 hF
      · skip
        have hF := hF.trans (if_neg c1)
        refine lv_aload_n hx hb dX4_begin_26 rfl (lv_at hl 0 rfl) ?_
        refine km_get (ci := 4) (C := RX4) (T := TX4) (N := 8) (t := 10) (i := i0) hx hb hts fi_X4_begin_X4 hown hK hw (by decide) h_i0 rfl rfl 0 (by decide) (hts (.fieldLink RX4 9 "WrongWord$Moment" "took" "[I") ow_X4_begin_9) rfl dX4_begin_27 ?_
        refine lv_iload_n hx hb dX4_begin_30 rfl (lv_at hl 2 rfl) ?_
        refine lv_iconst (v := 0) hx hb dX4_begin_31 (by decide) ?_
        have hb2 : ¬ (x2_21 < 0 ∨ 4 ≤ Int32.toNatClampNeg x2_21) := fun q => hs (hF.trans (if_pos q))
        have hF := hF.trans (if_neg hb2)
        refine km_iast (t := 11) (i := i0) (n := 4) hx hb hK hw (by decide) h_i0 (fun _ => rfl) hb2 dX4_begin_32 (fun H locs hw => ?_)
        obtain ⟨v3, ev3⟩ : ∃ z, z = up3 w21 11 i0 (Int32.toNatClampNeg x2_21) 0 := ⟨_, rfl⟩
        rw [← ev3] at hw
        have hF := hF.trans (kb_some (congrArg some ev3.symm) _)
        refine lv_iinc (v := x2_21 + 1) (lv' := [(2, .int (x2_21 + 1)), (0, .ref (Z.1 10 i0)), (1, .int a1)]) hx hb dX4_begin_33 hl (k := 2) rfl rfl (by decide) rfl (fun ls hl => ?_)
        refine lv_goto (tgt := 21) hx hb dX4_begin_36 (by decide) ?_
        have hl := lv_sub (l' := [(0, .ref (Z.1 10 i0)), (1, .int a1), (2, .int (x2_21 + 1))]) hl [1, 2, 0] rfl
        exact ih21 v3 (x2_21 + 1) _ _ _ hF hw hl
  refine lv_aload_n hx hb dX4_begin_0 rfl (lv_at hl 0 rfl) ?_
  refine lv_iconst (v := 0) hx hb dX4_begin_1 (by decide) ?_
  refine km_put (ci := 4) (C := RX4) (T := TX4) (N := 8) (t := 10) (i := i0) hx hb hts fi_X4_begin_X4 tyX4 tyX4_ok nmX4 hown hK hw (by decide) h_i0 rfl rfl 4 (by decide) (hts (.fieldLink RX4 24 "WrongWord$Moment" "night" "I") ow_X4_begin_24) rfl (by decide +kernel) (Nat.le_of_ble_eq_true rfl) rfl dX4_begin_2 (fun H locs hw => ?_)
  obtain ⟨v4, ev4⟩ : ∃ z, z = up3 v 10 i0 4 0 := ⟨_, rfl⟩
  rw [← ev4] at hw
  have hF := hF.trans (kb_some (congrArg some ev4.symm) _)
  refine lv_aload_n hx hb dX4_begin_5 rfl (lv_at hl 0 rfl) ?_
  refine lv_iconst (v := 1) hx hb dX4_begin_6 (by decide) ?_
  refine lv_iload_n hx hb dX4_begin_7 rfl (lv_at hl 1 rfl) ?_
  refine lv_ishl hx hb dX4_begin_8 ?_
  refine lv_iconst (v := 1) hx hb dX4_begin_9 (by decide) ?_
  refine lv_isub hx hb dX4_begin_10 ?_
  refine km_put (ci := 4) (C := RX4) (T := TX4) (N := 8) (t := 10) (i := i0) hx hb hts fi_X4_begin_X4 tyX4 tyX4_ok nmX4 hown hK hw (by decide) h_i0 rfl rfl 6 (by decide) (hts (.fieldLink RX4 28 "WrongWord$Moment" "there" "I") ow_X4_begin_28) rfl (by decide +kernel) (Nat.le_of_ble_eq_true rfl) rfl dX4_begin_11 (fun H locs hw => ?_)
  obtain ⟨v5, ev5⟩ : ∃ z, z = up3 v4 10 i0 6 (((1 : Int32) <<< (a1 &&& 31)) - 1) := ⟨_, rfl⟩
  rw [← ev5] at hw
  have hF := hF.trans (kb_some (congrArg some ev5.symm) _)
  refine lv_aload_n hx hb dX4_begin_14 rfl (lv_at hl 0 rfl) ?_
  refine lv_iconst (v := 0) hx hb dX4_begin_15 (by decide) ?_
  refine km_put (ci := 4) (C := RX4) (T := TX4) (N := 8) (t := 10) (i := i0) hx hb hts fi_X4_begin_X4 tyX4 tyX4_ok nmX4 hown hK hw (by decide) h_i0 rfl rfl 7 (by decide) (hts (.fieldLink RX4 31 "WrongWord$Moment" "tries" "I") ow_X4_begin_31) rfl (by decide +kernel) (Nat.le_of_ble_eq_true rfl) rfl dX4_begin_16 (fun H locs hw => ?_)
  obtain ⟨v6, ev6⟩ : ∃ z, z = up3 v5 10 i0 7 0 := ⟨_, rfl⟩
  rw [← ev6] at hw
  have hF := hF.trans (kb_some (congrArg some ev6.symm) _)
  refine lv_iconst (v := 0) hx hb dX4_begin_19 (by decide) ?_
  refine lv_istore_n (lv' := [(2, .int 0), (0, .ref (Z.1 10 i0)), (1, .int a1)]) hx hb dX4_begin_20 rfl hl (by decide) rfl (fun ls hl => ?_)
  have hl := lv_sub (l' := [(0, .ref (Z.1 10 i0)), (1, .int a1), (2, .int 0)]) hl [1, 2, 0] rfl
  exact loop21 2000 v6 0 _ _ _ hF hw hl
abbrev rmX4_goBy : Room := { frames := 0, cells := 0, slots := 0, locals := 0 }
def g_X4_goBy (v : Mm) (i0 : Nat) : Option (Mm) := Option.bind (some (up3 v 10 i0 4 ((v 10 i0 4) + 1))) (fun v1 => Option.bind (some (up3 v1 10 i0 7 0)) (fun v2 => some v2))
set_option maxHeartbeats 4000000 in
set_option maxRecDepth 100000 in
theorem d_X4_goBy (l : Launch) (E : kq_T) (Z : km_Z) (v : Mm) (i0 : Nat) (h_i0 : i0 < cntX 10) (hs : g_X4_goBy v i0 ≠ none) : km_V l E Z cntX yX4_goBy wsX4_goBy rmX4_goBy [.ref (Z.1 10 i0)] v (fun v1 => g_X4_goBy v i0 = some v1) := by
  refine km_goV (cc := cX4_goBy) (maxL := 1) (by decide) rfl (Nat.le_of_ble_eq_true rfl) rfl rfl rfl ?_
  intro p e s m below meth c A ls Q C hK hw hl hret
  obtain ⟨hx, hb, hml, hown, hts, -, -, -⟩ := C
  have hown : s.vm.findClass RX4 = some m.cls := hown
  have hl : lv_has ls 1 [(0, .ref (Z.1 10 i0))] := hl
  have hF := g_X4_goBy.eq_1 v i0
  refine lv_aload_n hx hb dX4_goBy_0 rfl (lv_at hl 0 rfl) ?_
  refine lv_dup hx hb dX4_goBy_1 rfl ?_
  refine km_get (ci := 4) (C := RX4) (T := TX4) (N := 8) (t := 10) (i := i0) hx hb hts fi_X4_goBy_X4 hown hK hw (by decide) h_i0 rfl rfl 4 (by decide) (hts (.fieldLink RX4 24 "WrongWord$Moment" "night" "I") ow_X4_goBy_24) rfl dX4_goBy_2 ?_
  refine lv_iconst (v := 1) hx hb dX4_goBy_5 (by decide) ?_
  refine lv_iadd hx hb dX4_goBy_6 ?_
  refine km_put (ci := 4) (C := RX4) (T := TX4) (N := 8) (t := 10) (i := i0) hx hb hts fi_X4_goBy_X4 tyX4 tyX4_ok nmX4 hown hK hw (by decide) h_i0 rfl rfl 4 (by decide) (hts (.fieldLink RX4 24 "WrongWord$Moment" "night" "I") ow_X4_goBy_24) rfl (by decide +kernel) (Nat.le_of_ble_eq_true rfl) rfl dX4_goBy_7 (fun H locs hw => ?_)
  obtain ⟨v1, ev1⟩ : ∃ z, z = up3 v 10 i0 4 ((v 10 i0 4) + 1) := ⟨_, rfl⟩
  rw [← ev1] at hw
  have hF := hF.trans (kb_some (congrArg some ev1.symm) _)
  refine lv_aload_n hx hb dX4_goBy_10 rfl (lv_at hl 0 rfl) ?_
  refine lv_iconst (v := 0) hx hb dX4_goBy_11 (by decide) ?_
  refine km_put (ci := 4) (C := RX4) (T := TX4) (N := 8) (t := 10) (i := i0) hx hb hts fi_X4_goBy_X4 tyX4 tyX4_ok nmX4 hown hK hw (by decide) h_i0 rfl rfl 7 (by decide) (hts (.fieldLink RX4 31 "WrongWord$Moment" "tries" "I") ow_X4_goBy_31) rfl (by decide +kernel) (Nat.le_of_ble_eq_true rfl) rfl dX4_goBy_12 (fun H locs hw => ?_)
  obtain ⟨v2, ev2⟩ : ∃ z, z = up3 v1 10 i0 7 0 := ⟨_, rfl⟩
  rw [← ev2] at hw
  have hF := hF.trans (kb_some (congrArg some ev2.symm) _)
  exact hret _ _ _ _ _ hw dX4_goBy_15 hF
abbrev rmX4_addTry : Room := { frames := 1, cells := 0, slots := 0, locals := 20 }
def g_X4_addTry (v : Mm) (i0 : Nat) (a1 : Int32) (a2 : Int32) (a3 : Int32) : Option (Mm) := if v 10 i0 7 < 9 then (if v 10 i0 7 < 0 ∨ 9 ≤ Int32.toNatClampNeg (v 10 i0 7) then none else (Option.bind (some (up3 v 12 i0 (Int32.toNatClampNeg (v 10 i0 7)) a1)) (fun v3 => if v3 10 i0 7 < 0 ∨ 9 ≤ Int32.toNatClampNeg (v3 10 i0 7) then none else (Option.bind (some (up3 v3 13 i0 (Int32.toNatClampNeg (v3 10 i0 7)) a2)) (fun v5 => Option.bind (g_X7_bit v5 a3) (fun r7 => if v5 10 i0 7 < 0 ∨ 9 ≤ Int32.toNatClampNeg (v5 10 i0 7) then none else (Option.bind (some (up3 v5 14 i0 (Int32.toNatClampNeg (v5 10 i0 7)) r7)) (fun v10 => Option.bind (some (up3 v10 10 i0 7 ((v10 10 i0 7) + 1))) (fun v11 => if a3 = 0 then (some v11) else (if a2 < 0 then (some v11) else (if 4 ≤ a2 then (some v11) else (if a2 < 0 ∨ 4 ≤ Int32.toNatClampNeg a2 then none else (if a2 < 0 ∨ 4 ≤ Int32.toNatClampNeg a2 then none else (Option.bind (some (up3 v11 11 i0 (Int32.toNatClampNeg a2) ((v11 11 i0 (Int32.toNatClampNeg a2)) + 1))) (fun v17 => some v17))))))))))))))) else (some v)
set_option maxHeartbeats 4000000 in
set_option maxRecDepth 100000 in
theorem d_X4_addTry (l : Launch) (E : kq_T) (Z : km_Z) (v : Mm) (i0 : Nat) (h_i0 : i0 < cntX 10) (a1 : Int32) (a2 : Int32) (a3 : Int32) (hs : g_X4_addTry v i0 a1 a2 a3 ≠ none) : km_V l E Z cntX yX4_addTry wsX4_addTry rmX4_addTry [.ref (Z.1 10 i0), .int a1, .int a2, .int a3] v (fun v1 => g_X4_addTry v i0 a1 a2 a3 = some v1) := by
  refine km_goV (cc := cX4_addTry) (maxL := 4) (by decide) rfl (Nat.le_of_ble_eq_true rfl) rfl rfl rfl ?_
  intro p e s m below meth c A ls Q C hK hw hl hret
  obtain ⟨hx, hb, hml, hown, hts, -, -, -⟩ := C
  have hown : s.vm.findClass RX4 = some m.cls := hown
  have hl : lv_has ls 4 [(0, .ref (Z.1 10 i0)), (1, .int a1), (2, .int a2), (3, .int a3)] := hl
  have hF := g_X4_addTry.eq_1 v i0 a1 a2 a3
  refine lv_aload_n hx hb dX4_addTry_0 rfl (lv_at hl 0 rfl) ?_
  refine km_get (ci := 4) (C := RX4) (T := TX4) (N := 8) (t := 10) (i := i0) hx hb hts fi_X4_addTry_X4 hown hK hw (by decide) h_i0 rfl rfl 7 (by decide) (hts (.fieldLink RX4 31 "WrongWord$Moment" "tries" "I") ow_X4_addTry_31) rfl dX4_addTry_1 ?_
  refine lv_bipush (v := 9) hx hb dX4_addTry_4 (by decide) ?_
  refine lv_icmp_lt (tgt := 10) hx hb dX4_addTry_6 (by decide) (fun c1 => ?_) (fun c1 => ?_)
  · skip
    have hF := hF.trans (if_pos c1)
    refine lv_aload_n hx hb dX4_addTry_10 rfl (lv_at hl 0 rfl) ?_
    refine km_get (ci := 4) (C := RX4) (T := TX4) (N := 8) (t := 10) (i := i0) hx hb hts fi_X4_addTry_X4 hown hK hw (by decide) h_i0 rfl rfl 1 (by decide) (hts (.fieldLink RX4 15 "WrongWord$Moment" "triedWord" "[I") ow_X4_addTry_15) rfl dX4_addTry_11 ?_
    refine lv_aload_n hx hb dX4_addTry_14 rfl (lv_at hl 0 rfl) ?_
    refine km_get (ci := 4) (C := RX4) (T := TX4) (N := 8) (t := 10) (i := i0) hx hb hts fi_X4_addTry_X4 hown hK hw (by decide) h_i0 rfl rfl 7 (by decide) (hts (.fieldLink RX4 31 "WrongWord$Moment" "tries" "I") ow_X4_addTry_31) rfl dX4_addTry_15 ?_
    refine lv_iload_n hx hb dX4_addTry_18 rfl (lv_at hl 1 rfl) ?_
    have hb2 : ¬ (v 10 i0 7 < 0 ∨ 9 ≤ Int32.toNatClampNeg (v 10 i0 7)) := fun q => hs (hF.trans (if_pos q))
    have hF := hF.trans (if_neg hb2)
    refine km_iast (t := 12) (i := i0) (n := 9) hx hb hK hw (by decide) h_i0 (fun _ => rfl) hb2 dX4_addTry_19 (fun H locs hw => ?_)
    obtain ⟨v3, ev3⟩ : ∃ z, z = up3 v 12 i0 (Int32.toNatClampNeg (v 10 i0 7)) a1 := ⟨_, rfl⟩
    rw [← ev3] at hw
    have hF := hF.trans (kb_some (congrArg some ev3.symm) _)
    refine lv_aload_n hx hb dX4_addTry_20 rfl (lv_at hl 0 rfl) ?_
    refine km_get (ci := 4) (C := RX4) (T := TX4) (N := 8) (t := 10) (i := i0) hx hb hts fi_X4_addTry_X4 hown hK hw (by decide) h_i0 rfl rfl 2 (by decide) (hts (.fieldLink RX4 18 "WrongWord$Moment" "triedGuard" "[I") ow_X4_addTry_18) rfl dX4_addTry_21 ?_
    refine lv_aload_n hx hb dX4_addTry_24 rfl (lv_at hl 0 rfl) ?_
    refine km_get (ci := 4) (C := RX4) (T := TX4) (N := 8) (t := 10) (i := i0) hx hb hts fi_X4_addTry_X4 hown hK hw (by decide) h_i0 rfl rfl 7 (by decide) (hts (.fieldLink RX4 31 "WrongWord$Moment" "tries" "I") ow_X4_addTry_31) rfl dX4_addTry_25 ?_
    refine lv_iload_n hx hb dX4_addTry_28 rfl (lv_at hl 2 rfl) ?_
    have hb4 : ¬ (v3 10 i0 7 < 0 ∨ 9 ≤ Int32.toNatClampNeg (v3 10 i0 7)) := fun q => hs (hF.trans (if_pos q))
    have hF := hF.trans (if_neg hb4)
    refine km_iast (t := 13) (i := i0) (n := 9) hx hb hK hw (by decide) h_i0 (fun _ => rfl) hb4 dX4_addTry_29 (fun H locs hw => ?_)
    obtain ⟨v5, ev5⟩ : ∃ z, z = up3 v3 13 i0 (Int32.toNatClampNeg (v3 10 i0 7)) a2 := ⟨_, rfl⟩
    rw [← ev5] at hw
    have hF := hF.trans (kb_some (congrArg some ev5.symm) _)
    refine lv_aload_n hx hb dX4_addTry_30 rfl (lv_at hl 0 rfl) ?_
    refine km_get (ci := 4) (C := RX4) (T := TX4) (N := 8) (t := 10) (i := i0) hx hb hts fi_X4_addTry_X4 hown hK hw (by decide) h_i0 rfl rfl 3 (by decide) (hts (.fieldLink RX4 21 "WrongWord$Moment" "triedTaken" "[I") ow_X4_addTry_21) rfl dX4_addTry_31 ?_
    refine lv_aload_n hx hb dX4_addTry_34 rfl (lv_at hl 0 rfl) ?_
    refine km_get (ci := 4) (C := RX4) (T := TX4) (N := 8) (t := 10) (i := i0) hx hb hts fi_X4_addTry_X4 hown hK hw (by decide) h_i0 rfl rfl 7 (by decide) (hts (.fieldLink RX4 31 "WrongWord$Moment" "tries" "I") ow_X4_addTry_31) rfl dX4_addTry_35 ?_
    refine lv_iload_n hx hb dX4_addTry_38 rfl (lv_at hl 3 rfl) ?_
    have hs6 : g_X7_bit v5 a3 ≠ none := fun q => hs (hF.trans (kb_n q _))
    refine km_cSN (As := [.int a3]) (rest := [.int (v5 10 i0 7), .ref (Z.1 14 i0)]) (n := 1) ⟨hx, hb, hml, hown, hts⟩ (d_X7_bit l E Z v5 a3 hs6) gX4_addTry_X7_bit_n43 rfl (hts (.initialized RX7) (by decide +kernel)) (by decide +kernel) (hts (.static yX7_bit) (by decide +kernel)) (by decide +kernel) ⟨Nat.le_of_ble_eq_true rfl, Nat.le_of_ble_eq_true rfl⟩ hK hw rfl hl.1 rfl (Nat.le_of_ble_eq_true rfl) dX4_addTry_39 rfl rfl (fun r7 v8 H locs hp hw => ?_)
    obtain ⟨hp, rfl⟩ := hp
    have hF := hF.trans (kb_some hp _)
    have hb9 : ¬ (v5 10 i0 7 < 0 ∨ 9 ≤ Int32.toNatClampNeg (v5 10 i0 7)) := fun q => hs (hF.trans (if_pos q))
    have hF := hF.trans (if_neg hb9)
    refine km_iast (t := 14) (i := i0) (n := 9) hx hb hK hw (by decide) h_i0 (fun _ => rfl) hb9 dX4_addTry_42 (fun H locs hw => ?_)
    obtain ⟨v10, ev10⟩ : ∃ z, z = up3 v5 14 i0 (Int32.toNatClampNeg (v5 10 i0 7)) r7 := ⟨_, rfl⟩
    rw [← ev10] at hw
    have hF := hF.trans (kb_some (congrArg some ev10.symm) _)
    refine lv_aload_n hx hb dX4_addTry_43 rfl (lv_at hl 0 rfl) ?_
    refine lv_dup hx hb dX4_addTry_44 rfl ?_
    refine km_get (ci := 4) (C := RX4) (T := TX4) (N := 8) (t := 10) (i := i0) hx hb hts fi_X4_addTry_X4 hown hK hw (by decide) h_i0 rfl rfl 7 (by decide) (hts (.fieldLink RX4 31 "WrongWord$Moment" "tries" "I") ow_X4_addTry_31) rfl dX4_addTry_45 ?_
    refine lv_iconst (v := 1) hx hb dX4_addTry_48 (by decide) ?_
    refine lv_iadd hx hb dX4_addTry_49 ?_
    refine km_put (ci := 4) (C := RX4) (T := TX4) (N := 8) (t := 10) (i := i0) hx hb hts fi_X4_addTry_X4 tyX4 tyX4_ok nmX4 hown hK hw (by decide) h_i0 rfl rfl 7 (by decide) (hts (.fieldLink RX4 31 "WrongWord$Moment" "tries" "I") ow_X4_addTry_31) rfl (by decide +kernel) (Nat.le_of_ble_eq_true rfl) rfl dX4_addTry_50 (fun H locs hw => ?_)
    obtain ⟨v11, ev11⟩ : ∃ z, z = up3 v10 10 i0 7 ((v10 10 i0 7) + 1) := ⟨_, rfl⟩
    rw [← ev11] at hw
    have hF := hF.trans (kb_some (congrArg some ev11.symm) _)
    refine lv_iload_n hx hb dX4_addTry_53 rfl (lv_at hl 3 rfl) ?_
    refine lv_if_eq (tgt := 76) hx hb dX4_addTry_54 (by decide) (fun c12 => ?_) (fun c12 => ?_)
    · skip
      have hF := hF.trans (if_pos c12)
      exact hret _ _ _ _ _ hw dX4_addTry_76 hF
    · skip
      have hF := hF.trans (if_neg c12)
      refine lv_iload_n hx hb dX4_addTry_57 rfl (lv_at hl 2 rfl) ?_
      refine lv_if_lt (tgt := 76) hx hb dX4_addTry_58 (by decide) (fun c13 => ?_) (fun c13 => ?_)
      · skip
        have hF := hF.trans (if_pos c13)
        exact hret _ _ _ _ _ hw dX4_addTry_76 hF
      · skip
        have hF := hF.trans (if_neg c13)
        refine lv_iload_n hx hb dX4_addTry_61 rfl (lv_at hl 2 rfl) ?_
        refine lv_iconst (v := 4) hx hb dX4_addTry_62 (by decide) ?_
        refine lv_icmp_ge (tgt := 76) hx hb dX4_addTry_63 (by decide) (fun c14 => ?_) (fun c14 => ?_)
        · skip
          have hF := hF.trans (if_pos c14)
          exact hret _ _ _ _ _ hw dX4_addTry_76 hF
        · skip
          have hF := hF.trans (if_neg c14)
          refine lv_aload_n hx hb dX4_addTry_66 rfl (lv_at hl 0 rfl) ?_
          refine km_get (ci := 4) (C := RX4) (T := TX4) (N := 8) (t := 10) (i := i0) hx hb hts fi_X4_addTry_X4 hown hK hw (by decide) h_i0 rfl rfl 0 (by decide) (hts (.fieldLink RX4 9 "WrongWord$Moment" "took" "[I") ow_X4_addTry_9) rfl dX4_addTry_67 ?_
          refine lv_iload_n hx hb dX4_addTry_70 rfl (lv_at hl 2 rfl) ?_
          refine lv_dup2_11 hx hb dX4_addTry_71 rfl rfl ?_
          have hb15 : ¬ (a2 < 0 ∨ 4 ≤ Int32.toNatClampNeg a2) := fun q => hs (hF.trans (if_pos q))
          have hF := hF.trans (if_neg hb15)
          refine km_iald (t := 11) (i := i0) hx hb hK hw (by decide) h_i0 rfl hb15 dX4_addTry_72 ?_
          refine lv_iconst (v := 1) hx hb dX4_addTry_73 (by decide) ?_
          refine lv_iadd hx hb dX4_addTry_74 ?_
          have hb16 : ¬ (a2 < 0 ∨ 4 ≤ Int32.toNatClampNeg a2) := fun q => hs (hF.trans (if_pos q))
          have hF := hF.trans (if_neg hb16)
          refine km_iast (t := 11) (i := i0) (n := 4) hx hb hK hw (by decide) h_i0 (fun _ => rfl) hb16 dX4_addTry_75 (fun H locs hw => ?_)
          obtain ⟨v17, ev17⟩ : ∃ z, z = up3 v11 11 i0 (Int32.toNatClampNeg a2) ((v11 11 i0 (Int32.toNatClampNeg a2)) + 1) := ⟨_, rfl⟩
          rw [← ev17] at hw
          have hF := hF.trans (kb_some (congrArg some ev17.symm) _)
          exact hret _ _ _ _ _ hw dX4_addTry_76 hF
  · skip
    have hF := hF.trans (if_neg c1)
    exact hret _ _ _ _ _ hw dX4_addTry_9 hF
abbrev rmX4_tookInAll : Room := { frames := 0, cells := 0, slots := 0, locals := 0 }
def b_X4_tookInAll_L4  (rec4 : Int32 → Int32 → Option (Int32)) (v : Mm) (i0 : Nat) (x1_4 : Int32) (x2_4 : Int32) : Option (Int32) := if 4 ≤ x2_4 then (some x1_4) else (if x2_4 < 0 ∨ 4 ≤ Int32.toNatClampNeg x2_4 then none else (Option.bind (some (x1_4 + (v 11 i0 (Int32.toNatClampNeg x2_4)))) (fun x3 => rec4 x3 (x2_4 + 1))))
def g_X4_tookInAll_L4  (v : Mm) (i0 : Nat) : Nat → Int32 → Int32 → Option (Int32)
  | 0 => fun _ _ => none
  | n + 1 => b_X4_tookInAll_L4  (g_X4_tookInAll_L4  v i0 n) v i0
def g_X4_tookInAll (v : Mm) (i0 : Nat) : Option (Int32) := g_X4_tookInAll_L4  v i0 2000 0 0
set_option maxHeartbeats 4000000 in
set_option maxRecDepth 100000 in
theorem d_X4_tookInAll (l : Launch) (E : kq_T) (Z : km_Z) (v : Mm) (i0 : Nat) (h_i0 : i0 < cntX 10) (hs : g_X4_tookInAll v i0 ≠ none) : km_I l E Z cntX yX4_tookInAll wsX4_tookInAll rmX4_tookInAll [.ref (Z.1 10 i0)] v (fun r v1 => g_X4_tookInAll v i0 = some r ∧ v = v1) := by
  refine km_goI (cc := cX4_tookInAll) (maxL := 3) (by decide) rfl (Nat.le_of_ble_eq_true rfl) rfl rfl rfl ?_
  intro p e s m below meth c A ls Q C hK hw hl hret
  obtain ⟨hx, hb, hml, hown, hts, -, -, -⟩ := C
  have hown : s.vm.findClass RX4 = some m.cls := hown
  have hl : lv_has ls 3 [(0, .ref (Z.1 10 i0))] := hl
  have hF := g_X4_tookInAll.eq_1 v i0
  have loop4 : ∀ (n4 : Nat) (x1_4 : Int32) (x2_4 : Int32) (H : Heap) (locs : List Loc) (ls : Array Slot), g_X4_tookInAll v i0 = g_X4_tookInAll_L4  v i0 n4 x1_4 x2_4 → km_w E A s.heap [] Z cntX v H locs → lv_has ls 3 [(0, .ref (Z.1 10 i0)), (1, .int x1_4), (2, .int x2_4)] → W p l e rmX4_tookInAll s m [.ref (Z.1 10 i0)].toArray below meth c H locs 0 0 Q (F0 m 4 ls []) := by
    intro n4
    induction n4 with
    | zero => intro x1_4 x2_4 H locs ls hF hw hl; exact absurd (show g_X4_tookInAll v i0 = none from hF) hs
    | succ n4 ih4 =>
      intro x1_4 x2_4 H locs ls hF hw hl
      have hF := hF.trans (b_X4_tookInAll_L4.eq_1  (g_X4_tookInAll_L4  v i0 n4) v i0 x1_4 x2_4)
      refine lv_iload_n hx hb dX4_tookInAll_4 rfl (lv_at hl 2 rfl) ?_
      refine lv_iconst (v := 4) hx hb dX4_tookInAll_5 (by decide) ?_
      refine lv_icmp_ge (tgt := 24) hx hb dX4_tookInAll_6 (by decide) (fun c1 => ?_) (fun c1 => ?_)
      · skip
        have hF := hF.trans (if_pos c1)
        refine lv_iload_n hx hb dX4_tookInAll_24 rfl (lv_at hl 1 rfl) ?_
        exact hret _ _ _ _ _ _ hw dX4_tookInAll_25 ⟨hF, rfl⟩
      · skip
        have hF := hF.trans (if_neg c1)
        refine lv_iload_n hx hb dX4_tookInAll_9 rfl (lv_at hl 1 rfl) ?_
        refine lv_aload_n hx hb dX4_tookInAll_10 rfl (lv_at hl 0 rfl) ?_
        refine km_get (ci := 4) (C := RX4) (T := TX4) (N := 8) (t := 10) (i := i0) hx hb hts fi_X4_tookInAll_X4 hown hK hw (by decide) h_i0 rfl rfl 0 (by decide) (hts (.fieldLink RX4 9 "WrongWord$Moment" "took" "[I") ow_X4_tookInAll_9) rfl dX4_tookInAll_11 ?_
        refine lv_iload_n hx hb dX4_tookInAll_14 rfl (lv_at hl 2 rfl) ?_
        have hb2 : ¬ (x2_4 < 0 ∨ 4 ≤ Int32.toNatClampNeg x2_4) := fun q => hs (hF.trans (if_pos q))
        have hF := hF.trans (if_neg hb2)
        refine km_iald (t := 11) (i := i0) hx hb hK hw (by decide) h_i0 rfl hb2 dX4_tookInAll_15 ?_
        refine lv_iadd hx hb dX4_tookInAll_16 ?_
        refine lv_topi (fun x3 ex3 => ?_)
        have hF := hF.trans (kb_some (congrArg some ex3.symm) _)
        refine lv_istore_n (lv' := [(1, .int x3), (0, .ref (Z.1 10 i0)), (2, .int x2_4)]) hx hb dX4_tookInAll_17 rfl hl (by decide) rfl (fun ls hl => ?_)
        refine lv_iinc (v := x2_4 + 1) (lv' := [(2, .int (x2_4 + 1)), (1, .int x3), (0, .ref (Z.1 10 i0))]) hx hb dX4_tookInAll_18 hl (k := 2) rfl rfl (by decide) rfl (fun ls hl => ?_)
        refine lv_goto (tgt := 4) hx hb dX4_tookInAll_21 (by decide) ?_
        have hl := lv_sub (l' := [(0, .ref (Z.1 10 i0)), (1, .int x3), (2, .int (x2_4 + 1))]) hl [2, 1, 0] rfl
        exact ih4 x3 (x2_4 + 1) _ _ _ hF hw hl
  refine lv_iconst (v := 0) hx hb dX4_tookInAll_0 (by decide) ?_
  refine lv_istore_n (lv' := [(1, .int 0), (0, .ref (Z.1 10 i0))]) hx hb dX4_tookInAll_1 rfl hl (by decide) rfl (fun ls hl => ?_)
  refine lv_iconst (v := 0) hx hb dX4_tookInAll_2 (by decide) ?_
  refine lv_istore_n (lv' := [(2, .int 0), (1, .int 0), (0, .ref (Z.1 10 i0))]) hx hb dX4_tookInAll_3 rfl hl (by decide) rfl (fun ls hl => ?_)
  have hl := lv_sub (l' := [(0, .ref (Z.1 10 i0)), (1, .int 0), (2, .int 0)]) hl [2, 1, 0] rfl
  exact loop4 2000 0 0 _ _ _ hF hw hl
abbrev rmX5_make : Room := { frames := 0, cells := 0, slots := 0, locals := 0 }
def b_X5_make_L12  (rec12 : Mm → Int32 → Option (Mm)) (i0 : Nat) (a1 : Int32) (a2 : Int32) (w12 : Mm) (x3_12 : Int32) : Option (Mm) := if 40 ≤ x3_12 then (some w12) else (if x3_12 < 0 ∨ 40 ≤ Int32.toNatClampNeg x3_12 then none else (Option.bind (some (up3 w12 3 i0 (Int32.toNatClampNeg x3_12) 0)) (fun v5 => rec12 v5 (x3_12 + 1))))
def g_X5_make_L12  (i0 : Nat) (a1 : Int32) (a2 : Int32) : Nat → Mm → Int32 → Option (Mm)
  | 0 => fun _ _ => none
  | n + 1 => b_X5_make_L12  (g_X5_make_L12  i0 a1 a2 n) i0 a1 a2
def g_X5_make (v : Mm) (i0 : Nat) (a1 : Int32) (a2 : Int32) : Option (Mm) := Option.bind (some (up3 v 2 i0 1 a1)) (fun v1 => Option.bind (some (up3 v1 2 i0 2 a2)) (fun v2 => g_X5_make_L12  i0 a1 a2 2000 v2 0))
set_option maxHeartbeats 4000000 in
set_option maxRecDepth 100000 in
theorem d_X5_make (l : Launch) (E : kq_T) (Z : km_Z) (v : Mm) (i0 : Nat) (h_i0 : i0 < cntX 2) (a1 : Int32) (a2 : Int32) (hs : g_X5_make v i0 a1 a2 ≠ none) : km_V l E Z cntX yX5_make wsX5_make rmX5_make [.ref (Z.1 2 i0), .int a1, .int a2] v (fun v1 => g_X5_make v i0 a1 a2 = some v1) := by
  refine km_goV (cc := cX5_make) (maxL := 4) (by decide) rfl (Nat.le_of_ble_eq_true rfl) rfl rfl rfl ?_
  intro p e s m below meth c A ls Q C hK hw hl hret
  obtain ⟨hx, hb, hml, hown, hts, -, -, -⟩ := C
  have hown : s.vm.findClass RX5 = some m.cls := hown
  have hl : lv_has ls 4 [(0, .ref (Z.1 2 i0)), (1, .int a1), (2, .int a2)] := hl
  have hF := g_X5_make.eq_1 v i0 a1 a2
  have loop12 : ∀ (n12 : Nat) (w12 : Mm) (x3_12 : Int32) (H : Heap) (locs : List Loc) (ls : Array Slot), g_X5_make v i0 a1 a2 = g_X5_make_L12  i0 a1 a2 n12 w12 x3_12 → km_w E A s.heap [] Z cntX w12 H locs → lv_has ls 4 [(0, .ref (Z.1 2 i0)), (1, .int a1), (2, .int a2), (3, .int x3_12)] → W p l e rmX5_make s m [.ref (Z.1 2 i0), .int a1, .int a2].toArray below meth c H locs 0 0 Q (F0 m 12 ls []) := by
    intro n12
    induction n12 with
    | zero => intro w12 x3_12 H locs ls hF hw hl; exact absurd (show g_X5_make v i0 a1 a2 = none from hF) hs
    | succ n12 ih12 =>
      intro w12 x3_12 H locs ls hF hw hl
      have hF := hF.trans (b_X5_make_L12.eq_1  (g_X5_make_L12  i0 a1 a2 n12) i0 a1 a2 w12 x3_12)
      refine lv_iload_n hx hb dX5_make_12 rfl (lv_at hl 3 rfl) ?_
      refine lv_bipush (v := 40) hx hb dX5_make_13 (by decide) ?_
      refine lv_icmp_ge (tgt := 31) hx hb dX5_make_15 (by decide) (fun c1 => ?_) (fun c1 => ?_)
      · skip
        have hF := hF.trans (if_pos c1)
        exact hret _ _ _ _ _ hw dX5_make_31 hF
      · skip
        have hF := hF.trans (if_neg c1)
        refine lv_aload_n hx hb dX5_make_18 rfl (lv_at hl 0 rfl) ?_
        refine km_get (ci := 5) (C := RX5) (T := TX5) (N := 3) (t := 2) (i := i0) hx hb hts fi_X5_make_X5 hown hK hw (by decide) h_i0 rfl rfl 0 (by decide) (hts (.fieldLink RX5 9 "WrongWord$Row" "items" "[I") ow_X5_make_9) rfl dX5_make_19 ?_
        refine lv_iload_n hx hb dX5_make_22 rfl (lv_at hl 3 rfl) ?_
        refine lv_iconst (v := 0) hx hb dX5_make_23 (by decide) ?_
        have hb2 : ¬ (x3_12 < 0 ∨ 40 ≤ Int32.toNatClampNeg x3_12) := fun q => hs (hF.trans (if_pos q))
        have hF := hF.trans (if_neg hb2)
        refine km_iast (t := 3) (i := i0) (n := 40) hx hb hK hw (by decide) h_i0 (fun _ => rfl) hb2 dX5_make_24 (fun H locs hw => ?_)
        obtain ⟨v3, ev3⟩ : ∃ z, z = up3 w12 3 i0 (Int32.toNatClampNeg x3_12) 0 := ⟨_, rfl⟩
        rw [← ev3] at hw
        have hF := hF.trans (kb_some (congrArg some ev3.symm) _)
        refine lv_iinc (v := x3_12 + 1) (lv' := [(3, .int (x3_12 + 1)), (0, .ref (Z.1 2 i0)), (1, .int a1), (2, .int a2)]) hx hb dX5_make_25 hl (k := 3) rfl rfl (by decide) rfl (fun ls hl => ?_)
        refine lv_goto (tgt := 12) hx hb dX5_make_28 (by decide) ?_
        have hl := lv_sub (l' := [(0, .ref (Z.1 2 i0)), (1, .int a1), (2, .int a2), (3, .int (x3_12 + 1))]) hl [1, 2, 3, 0] rfl
        exact ih12 v3 (x3_12 + 1) _ _ _ hF hw hl
  refine lv_aload_n hx hb dX5_make_0 rfl (lv_at hl 0 rfl) ?_
  refine lv_iload_n hx hb dX5_make_1 rfl (lv_at hl 1 rfl) ?_
  refine km_put (ci := 5) (C := RX5) (T := TX5) (N := 3) (t := 2) (i := i0) hx hb hts fi_X5_make_X5 tyX5 tyX5_ok nmX5 hown hK hw (by decide) h_i0 rfl rfl 1 (by decide) (hts (.fieldLink RX5 15 "WrongWord$Row" "lane" "I") ow_X5_make_15) rfl (by decide +kernel) (Nat.le_of_ble_eq_true rfl) rfl dX5_make_2 (fun H locs hw => ?_)
  obtain ⟨v4, ev4⟩ : ∃ z, z = up3 v 2 i0 1 a1 := ⟨_, rfl⟩
  rw [← ev4] at hw
  have hF := hF.trans (kb_some (congrArg some ev4.symm) _)
  refine lv_aload_n hx hb dX5_make_5 rfl (lv_at hl 0 rfl) ?_
  refine lv_iload_n hx hb dX5_make_6 rfl (lv_at hl 2 rfl) ?_
  refine km_put (ci := 5) (C := RX5) (T := TX5) (N := 3) (t := 2) (i := i0) hx hb hts fi_X5_make_X5 tyX5 tyX5_ok nmX5 hown hK hw (by decide) h_i0 rfl rfl 2 (by decide) (hts (.fieldLink RX5 19 "WrongWord$Row" "size" "I") ow_X5_make_19) rfl (by decide +kernel) (Nat.le_of_ble_eq_true rfl) rfl dX5_make_7 (fun H locs hw => ?_)
  obtain ⟨v5, ev5⟩ : ∃ z, z = up3 v4 2 i0 2 a2 := ⟨_, rfl⟩
  rw [← ev5] at hw
  have hF := hF.trans (kb_some (congrArg some ev5.symm) _)
  refine lv_iconst (v := 0) hx hb dX5_make_10 (by decide) ?_
  refine lv_istore_n (lv' := [(3, .int 0), (0, .ref (Z.1 2 i0)), (1, .int a1), (2, .int a2)]) hx hb dX5_make_11 rfl hl (by decide) rfl (fun ls hl => ?_)
  have hl := lv_sub (l' := [(0, .ref (Z.1 2 i0)), (1, .int a1), (2, .int a2), (3, .int 0)]) hl [1, 2, 3, 0] rfl
  exact loop12 2000 v5 0 _ _ _ hF hw hl
abbrev rmX5_reaches : Room := { frames := 0, cells := 0, slots := 0, locals := 0 }
def g_X5_reaches (v : Mm) (i0 : Nat) (a1 : Int32) (a2 : Int32) : Option (Int32) := if a1 < 0 then (some 0) else (if a2 < 0 then (some 0) else (if (v 2 i0 2) - a2 < a1 then (some 0) else (some 1)))
set_option maxHeartbeats 4000000 in
set_option maxRecDepth 100000 in
theorem d_X5_reaches (l : Launch) (E : kq_T) (Z : km_Z) (v : Mm) (i0 : Nat) (h_i0 : i0 < cntX 2) (a1 : Int32) (a2 : Int32) (hs : g_X5_reaches v i0 a1 a2 ≠ none) : km_I l E Z cntX yX5_reaches wsX5_reaches rmX5_reaches [.ref (Z.1 2 i0), .int a1, .int a2] v (fun r v1 => (g_X5_reaches v i0 a1 a2 = some r ∧ v = v1) ∧ (r = 0 ∨ r = 1)) := by
  refine km_goZ (cc := cX5_reaches) (maxL := 3) (post := fun r v1 => g_X5_reaches v i0 a1 a2 = some r ∧ v = v1) (by decide) rfl (Nat.le_of_ble_eq_true rfl) rfl rfl rfl ?_
  intro p e s m below meth c A ls Q C hK hw hl hret
  obtain ⟨hx, hb, hml, hown, hts, -, -, -⟩ := C
  have hown : s.vm.findClass RX5 = some m.cls := hown
  have hl : lv_has ls 3 [(0, .ref (Z.1 2 i0)), (1, .int a1), (2, .int a2)] := hl
  have hF := g_X5_reaches.eq_1 v i0 a1 a2
  refine lv_iload_n hx hb dX5_reaches_0 rfl (lv_at hl 1 rfl) ?_
  refine lv_if_lt (tgt := 22) hx hb dX5_reaches_1 (by decide) (fun c1 => ?_) (fun c1 => ?_)
  · skip
    have hF := hF.trans (if_pos c1)
    refine lv_iconst (v := 0) hx hb dX5_reaches_22 (by decide) ?_
    exact hret _ _ _ _ _ _ hw dX5_reaches_23 (Or.inl rfl) ⟨hF, rfl⟩
  · skip
    have hF := hF.trans (if_neg c1)
    refine lv_iload_n hx hb dX5_reaches_4 rfl (lv_at hl 2 rfl) ?_
    refine lv_if_lt (tgt := 22) hx hb dX5_reaches_5 (by decide) (fun c2 => ?_) (fun c2 => ?_)
    · skip
      have hF := hF.trans (if_pos c2)
      refine lv_iconst (v := 0) hx hb dX5_reaches_22 (by decide) ?_
      exact hret _ _ _ _ _ _ hw dX5_reaches_23 (Or.inl rfl) ⟨hF, rfl⟩
    · skip
      have hF := hF.trans (if_neg c2)
      refine lv_iload_n hx hb dX5_reaches_8 rfl (lv_at hl 1 rfl) ?_
      refine lv_aload_n hx hb dX5_reaches_9 rfl (lv_at hl 0 rfl) ?_
      refine km_get (ci := 5) (C := RX5) (T := TX5) (N := 3) (t := 2) (i := i0) hx hb hts fi_X5_reaches_X5 hown hK hw (by decide) h_i0 rfl rfl 2 (by decide) (hts (.fieldLink RX5 19 "WrongWord$Row" "size" "I") ow_X5_reaches_19) rfl dX5_reaches_10 ?_
      refine lv_iload_n hx hb dX5_reaches_13 rfl (lv_at hl 2 rfl) ?_
      refine lv_isub hx hb dX5_reaches_14 ?_
      refine lv_icmp_gt (tgt := 22) hx hb dX5_reaches_15 (by decide) (fun c3 => ?_) (fun c3 => ?_)
      · skip
        have hF := hF.trans (if_pos c3)
        refine lv_iconst (v := 0) hx hb dX5_reaches_22 (by decide) ?_
        exact hret _ _ _ _ _ _ hw dX5_reaches_23 (Or.inl rfl) ⟨hF, rfl⟩
      · skip
        have hF := hF.trans (if_neg c3)
        refine lv_iconst (v := 1) hx hb dX5_reaches_18 (by decide) ?_
        refine lv_goto (tgt := 23) hx hb dX5_reaches_19 (by decide) ?_
        exact hret _ _ _ _ _ _ hw dX5_reaches_23 (Or.inr rfl) ⟨hF, rfl⟩
abbrev rmX5_findingOf : Room := { frames := 1, cells := 0, slots := 0, locals := 22 }
def g_X5_findingOf (v : Mm) (i0 : Nat) (a1 : Int32) (a2 : Int32) : Option (Int32) := if v 2 i0 1 = (-1) then (some 1) else (Option.bind (g_X5_reaches v i0 a1 a2) (fun r3 => if r3 = 0 then (some 2) else (some 0)))
set_option maxHeartbeats 4000000 in
set_option maxRecDepth 100000 in
theorem d_X5_findingOf (l : Launch) (E : kq_T) (Z : km_Z) (v : Mm) (i0 : Nat) (h_i0 : i0 < cntX 2) (a1 : Int32) (a2 : Int32) (hs : g_X5_findingOf v i0 a1 a2 ≠ none) : km_I l E Z cntX yX5_findingOf wsX5_findingOf rmX5_findingOf [.ref (Z.1 2 i0), .int a1, .int a2] v (fun r v1 => g_X5_findingOf v i0 a1 a2 = some r ∧ v = v1) := by
  refine km_goI (cc := cX5_findingOf) (maxL := 3) (by decide) rfl (Nat.le_of_ble_eq_true rfl) rfl rfl rfl ?_
  intro p e s m below meth c A ls Q C hK hw hl hret
  obtain ⟨hx, hb, hml, hown, hts, -, -, -⟩ := C
  have hown : s.vm.findClass RX5 = some m.cls := hown
  have hl : lv_has ls 3 [(0, .ref (Z.1 2 i0)), (1, .int a1), (2, .int a2)] := hl
  have hF := g_X5_findingOf.eq_1 v i0 a1 a2
  refine lv_aload_n hx hb dX5_findingOf_0 rfl (lv_at hl 0 rfl) ?_
  refine km_get (ci := 5) (C := RX5) (T := TX5) (N := 3) (t := 2) (i := i0) hx hb hts fi_X5_findingOf_X5 hown hK hw (by decide) h_i0 rfl rfl 1 (by decide) (hts (.fieldLink RX5 15 "WrongWord$Row" "lane" "I") ow_X5_findingOf_15) rfl dX5_findingOf_1 ?_
  refine lv_iconst (v := (-1)) hx hb dX5_findingOf_4 (by decide) ?_
  refine lv_icmp_ne (tgt := 10) hx hb dX5_findingOf_5 (by decide) (fun c1 => ?_) (fun c1 => ?_)
  · skip
    have hF := hF.trans (if_neg c1)
    refine lv_aload_n hx hb dX5_findingOf_10 rfl (lv_at hl 0 rfl) ?_
    refine lv_iload_n hx hb dX5_findingOf_11 rfl (lv_at hl 1 rfl) ?_
    refine lv_iload_n hx hb dX5_findingOf_12 rfl (lv_at hl 2 rfl) ?_
    have hs2 : g_X5_reaches v i0 a1 a2 ≠ none := fun q => hs (hF.trans (kb_n q _))
    refine km_cI (As := [.int a1, .int a2]) (rest := []) (n := 2) (q := (RX5, TX5, 3)) (ci := 5) (t := 2) (i := i0) ⟨hx, hb, hml, hown, hts⟩ (d_X5_reaches l E Z v i0 h_i0 a1 a2 hs2) gX5_findingOf_X5_reaches rfl hV_X5_reaches ⟨Nat.le_of_ble_eq_true rfl, Nat.le_of_ble_eq_true rfl⟩ hK hw (by decide) h_i0 rfl rfl rfl hl.1 rfl (Nat.le_of_ble_eq_true rfl) dX5_findingOf_13 rfl rfl (fun r3 v4 H locs hp hw => ?_)
    obtain ⟨hp, hzr3⟩ := hp
    obtain ⟨hp, rfl⟩ := hp
    have hF := hF.trans (kb_some hp _)
    refine lv_if_eq (tgt := 23) hx hb dX5_findingOf_16 (by decide) (fun c5 => ?_) (fun c5 => ?_)
    · skip
      have hF := hF.trans (if_pos c5)
      refine lv_iconst (v := 2) hx hb dX5_findingOf_23 (by decide) ?_
      exact hret _ _ _ _ _ _ hw dX5_findingOf_24 ⟨hF, rfl⟩
    · skip
      have hF := hF.trans (if_neg c5)
      refine lv_iconst (v := 0) hx hb dX5_findingOf_19 (by decide) ?_
      refine lv_goto (tgt := 24) hx hb dX5_findingOf_20 (by decide) ?_
      exact hret _ _ _ _ _ _ hw dX5_findingOf_24 ⟨hF, rfl⟩
  · skip
    have hF := hF.trans (if_pos c1)
    refine lv_iconst (v := 1) hx hb dX5_findingOf_8 (by decide) ?_
    exact hret _ _ _ _ _ _ hw dX5_findingOf_9 ⟨hF, rfl⟩
abbrev rmX5_put : Room := { frames := 0, cells := 0, slots := 0, locals := 0 }
def g_X5_put (v : Mm) (i0 : Nat) (a1 : Int32) (a2 : Int32) : Option (Int32 × Mm) := if v 2 i0 1 = 0 then (if a1 < 0 ∨ 40 ≤ Int32.toNatClampNeg a1 then none else (Option.bind (some (up3 v 3 i0 (Int32.toNatClampNeg a1) a2.toInt8.toInt32)) (fun v10 => if a1 < 0 ∨ 40 ≤ Int32.toNatClampNeg a1 then none else (some (v10 3 i0 (Int32.toNatClampNeg a1), v10))))) else (if v 2 i0 1 = 1 then (if a1 < 0 ∨ 40 ≤ Int32.toNatClampNeg a1 then none else (Option.bind (some (up3 v 3 i0 (Int32.toNatClampNeg a1) a2.toInt16.toInt32)) (fun v7 => if a1 < 0 ∨ 40 ≤ Int32.toNatClampNeg a1 then none else (some (v7 3 i0 (Int32.toNatClampNeg a1), v7))))) else (if a1 < 0 ∨ 40 ≤ Int32.toNatClampNeg a1 then none else (Option.bind (some (up3 v 3 i0 (Int32.toNatClampNeg a1) a2)) (fun v4 => if a1 < 0 ∨ 40 ≤ Int32.toNatClampNeg a1 then none else (some (v4 3 i0 (Int32.toNatClampNeg a1), v4))))))
set_option maxHeartbeats 4000000 in
set_option maxRecDepth 100000 in
theorem d_X5_put (l : Launch) (E : kq_T) (Z : km_Z) (v : Mm) (i0 : Nat) (h_i0 : i0 < cntX 2) (a1 : Int32) (a2 : Int32) (hs : g_X5_put v i0 a1 a2 ≠ none) : km_I l E Z cntX yX5_put wsX5_put rmX5_put [.ref (Z.1 2 i0), .int a1, .int a2] v (fun r v1 => g_X5_put v i0 a1 a2 = some (r, v1)) := by
  refine km_goI (cc := cX5_put) (maxL := 3) (by decide) rfl (Nat.le_of_ble_eq_true rfl) rfl rfl rfl ?_
  intro p e s m below meth c A ls Q C hK hw hl hret
  obtain ⟨hx, hb, hml, hown, hts, -, -, -⟩ := C
  have hown : s.vm.findClass RX5 = some m.cls := hown
  have hl : lv_has ls 3 [(0, .ref (Z.1 2 i0)), (1, .int a1), (2, .int a2)] := hl
  have hF := g_X5_put.eq_1 v i0 a1 a2
  refine lv_aload_n hx hb dX5_put_0 rfl (lv_at hl 0 rfl) ?_
  refine km_get (ci := 5) (C := RX5) (T := TX5) (N := 3) (t := 2) (i := i0) hx hb hts fi_X5_put_X5 hown hK hw (by decide) h_i0 rfl rfl 0 (by decide) (hts (.fieldLink RX5 9 "WrongWord$Row" "items" "[I") ow_X5_put_9) rfl dX5_put_1 ?_
  refine lv_iload_n hx hb dX5_put_4 rfl (lv_at hl 1 rfl) ?_
  refine lv_aload_n hx hb dX5_put_5 rfl (lv_at hl 0 rfl) ?_
  refine km_get (ci := 5) (C := RX5) (T := TX5) (N := 3) (t := 2) (i := i0) hx hb hts fi_X5_put_X5 hown hK hw (by decide) h_i0 rfl rfl 1 (by decide) (hts (.fieldLink RX5 15 "WrongWord$Row" "lane" "I") ow_X5_put_15) rfl dX5_put_6 ?_
  refine lv_if_ne (tgt := 17) hx hb dX5_put_9 (by decide) (fun c1 => ?_) (fun c1 => ?_)
  · skip
    have hF := hF.trans (if_neg c1)
    refine lv_aload_n hx hb dX5_put_17 rfl (lv_at hl 0 rfl) ?_
    refine km_get (ci := 5) (C := RX5) (T := TX5) (N := 3) (t := 2) (i := i0) hx hb hts fi_X5_put_X5 hown hK hw (by decide) h_i0 rfl rfl 1 (by decide) (hts (.fieldLink RX5 15 "WrongWord$Row" "lane" "I") ow_X5_put_15) rfl dX5_put_18 ?_
    refine lv_iconst (v := 1) hx hb dX5_put_21 (by decide) ?_
    refine lv_icmp_ne (tgt := 30) hx hb dX5_put_22 (by decide) (fun c2 => ?_) (fun c2 => ?_)
    · skip
      have hF := hF.trans (if_neg c2)
      refine lv_iload_n hx hb dX5_put_30 rfl (lv_at hl 2 rfl) ?_
      have hb3 : ¬ (a1 < 0 ∨ 40 ≤ Int32.toNatClampNeg a1) := fun q => hs (hF.trans (if_pos q))
      have hF := hF.trans (if_neg hb3)
      refine km_iast (t := 3) (i := i0) (n := 40) hx hb hK hw (by decide) h_i0 (fun _ => rfl) hb3 dX5_put_31 (fun H locs hw => ?_)
      obtain ⟨v4, ev4⟩ : ∃ z, z = up3 v 3 i0 (Int32.toNatClampNeg a1) a2 := ⟨_, rfl⟩
      rw [← ev4] at hw
      have hF := hF.trans (kb_some (congrArg some ev4.symm) _)
      refine lv_aload_n hx hb dX5_put_32 rfl (lv_at hl 0 rfl) ?_
      refine km_get (ci := 5) (C := RX5) (T := TX5) (N := 3) (t := 2) (i := i0) hx hb hts fi_X5_put_X5 hown hK hw (by decide) h_i0 rfl rfl 0 (by decide) (hts (.fieldLink RX5 9 "WrongWord$Row" "items" "[I") ow_X5_put_9) rfl dX5_put_33 ?_
      refine lv_iload_n hx hb dX5_put_36 rfl (lv_at hl 1 rfl) ?_
      have hb5 : ¬ (a1 < 0 ∨ 40 ≤ Int32.toNatClampNeg a1) := fun q => hs (hF.trans (if_pos q))
      have hF := hF.trans (if_neg hb5)
      refine km_iald (t := 3) (i := i0) hx hb hK hw (by decide) h_i0 rfl hb5 dX5_put_37 ?_
      exact hret _ _ _ _ _ _ hw dX5_put_38 hF
    · skip
      have hF := hF.trans (if_pos c2)
      refine lv_iload_n hx hb dX5_put_25 rfl (lv_at hl 2 rfl) ?_
      refine lv_i2s (v := a2.toInt16.toInt32) hx hb dX5_put_26 rfl ?_
      refine lv_goto (tgt := 31) hx hb dX5_put_27 (by decide) ?_
      have hb6 : ¬ (a1 < 0 ∨ 40 ≤ Int32.toNatClampNeg a1) := fun q => hs (hF.trans (if_pos q))
      have hF := hF.trans (if_neg hb6)
      refine km_iast (t := 3) (i := i0) (n := 40) hx hb hK hw (by decide) h_i0 (fun _ => rfl) hb6 dX5_put_31 (fun H locs hw => ?_)
      obtain ⟨v7, ev7⟩ : ∃ z, z = up3 v 3 i0 (Int32.toNatClampNeg a1) a2.toInt16.toInt32 := ⟨_, rfl⟩
      rw [← ev7] at hw
      have hF := hF.trans (kb_some (congrArg some ev7.symm) _)
      refine lv_aload_n hx hb dX5_put_32 rfl (lv_at hl 0 rfl) ?_
      refine km_get (ci := 5) (C := RX5) (T := TX5) (N := 3) (t := 2) (i := i0) hx hb hts fi_X5_put_X5 hown hK hw (by decide) h_i0 rfl rfl 0 (by decide) (hts (.fieldLink RX5 9 "WrongWord$Row" "items" "[I") ow_X5_put_9) rfl dX5_put_33 ?_
      refine lv_iload_n hx hb dX5_put_36 rfl (lv_at hl 1 rfl) ?_
      have hb8 : ¬ (a1 < 0 ∨ 40 ≤ Int32.toNatClampNeg a1) := fun q => hs (hF.trans (if_pos q))
      have hF := hF.trans (if_neg hb8)
      refine km_iald (t := 3) (i := i0) hx hb hK hw (by decide) h_i0 rfl hb8 dX5_put_37 ?_
      exact hret _ _ _ _ _ _ hw dX5_put_38 hF
  · skip
    have hF := hF.trans (if_pos c1)
    refine lv_iload_n hx hb dX5_put_12 rfl (lv_at hl 2 rfl) ?_
    refine lv_i2b (v := a2.toInt8.toInt32) hx hb dX5_put_13 rfl ?_
    refine lv_goto (tgt := 31) hx hb dX5_put_14 (by decide) ?_
    have hb9 : ¬ (a1 < 0 ∨ 40 ≤ Int32.toNatClampNeg a1) := fun q => hs (hF.trans (if_pos q))
    have hF := hF.trans (if_neg hb9)
    refine km_iast (t := 3) (i := i0) (n := 40) hx hb hK hw (by decide) h_i0 (fun _ => rfl) hb9 dX5_put_31 (fun H locs hw => ?_)
    obtain ⟨v10, ev10⟩ : ∃ z, z = up3 v 3 i0 (Int32.toNatClampNeg a1) a2.toInt8.toInt32 := ⟨_, rfl⟩
    rw [← ev10] at hw
    have hF := hF.trans (kb_some (congrArg some ev10.symm) _)
    refine lv_aload_n hx hb dX5_put_32 rfl (lv_at hl 0 rfl) ?_
    refine km_get (ci := 5) (C := RX5) (T := TX5) (N := 3) (t := 2) (i := i0) hx hb hts fi_X5_put_X5 hown hK hw (by decide) h_i0 rfl rfl 0 (by decide) (hts (.fieldLink RX5 9 "WrongWord$Row" "items" "[I") ow_X5_put_9) rfl dX5_put_33 ?_
    refine lv_iload_n hx hb dX5_put_36 rfl (lv_at hl 1 rfl) ?_
    have hb11 : ¬ (a1 < 0 ∨ 40 ≤ Int32.toNatClampNeg a1) := fun q => hs (hF.trans (if_pos q))
    have hF := hF.trans (if_neg hb11)
    refine km_iald (t := 3) (i := i0) hx hb hK hw (by decide) h_i0 rfl hb11 dX5_put_37 ?_
    exact hret _ _ _ _ _ _ hw dX5_put_38 hF
abbrev rmX6_append : Room := { frames := 0, cells := 0, slots := 0, locals := 0 }
def g_X6_append (v : Mm) (a1 : Int32) : Option (Int32 × Mm) := if v 4 0 2 < 100 then (if v 4 0 2 < 0 ∨ 100 ≤ Int32.toNatClampNeg (v 4 0 2) then none else (Option.bind (some (up3 v 5 0 (Int32.toNatClampNeg (v 4 0 2)) a1)) (fun v3 => Option.bind (some (up3 v3 4 0 2 ((v3 4 0 2) + 1))) (fun v4 => some (1, v4))))) else (some (0, v))
set_option maxHeartbeats 4000000 in
set_option maxRecDepth 100000 in
theorem d_X6_append (l : Launch) (E : kq_T) (Z : km_Z) (v : Mm) (a1 : Int32) (hs : g_X6_append v a1 ≠ none) : km_I l E Z cntX yX6_append wsX6_append rmX6_append [.ref (Z.1 4 0), .int a1] v (fun r v1 => (g_X6_append v a1 = some (r, v1)) ∧ (r = 0 ∨ r = 1)) := by
  refine km_goZ (cc := cX6_append) (maxL := 2) (post := fun r v1 => g_X6_append v a1 = some (r, v1)) (by decide) rfl (Nat.le_of_ble_eq_true rfl) rfl rfl rfl ?_
  intro p e s m below meth c A ls Q C hK hw hl hret
  obtain ⟨hx, hb, hml, hown, hts, -, -, -⟩ := C
  have hown : s.vm.findClass RX6 = some m.cls := hown
  have hl : lv_has ls 2 [(0, .ref (Z.1 4 0)), (1, .int a1)] := hl
  have hF := g_X6_append.eq_1 v a1
  refine lv_aload_n hx hb dX6_append_0 rfl (lv_at hl 0 rfl) ?_
  refine km_get (ci := 6) (C := RX6) (T := TX6) (N := 7) (t := 4) (i := 0) hx hb hts fi_X6_append_X6 hown hK hw (by decide) (by decide) rfl rfl 2 (by decide) (hts (.fieldLink RX6 22 "WrongWord$Tape" "length" "I") ow_X6_append_22) rfl dX6_append_1 ?_
  refine lv_bipush (v := 100) hx hb dX6_append_4 (by decide) ?_
  refine lv_icmp_lt (tgt := 11) hx hb dX6_append_6 (by decide) (fun c1 => ?_) (fun c1 => ?_)
  · skip
    have hF := hF.trans (if_pos c1)
    refine lv_aload_n hx hb dX6_append_11 rfl (lv_at hl 0 rfl) ?_
    refine km_get (ci := 6) (C := RX6) (T := TX6) (N := 7) (t := 4) (i := 0) hx hb hts fi_X6_append_X6 hown hK hw (by decide) (by decide) rfl rfl 0 (by decide) (hts (.fieldLink RX6 9 "WrongWord$Tape" "bytes" "[I") ow_X6_append_9) rfl dX6_append_12 ?_
    refine lv_aload_n hx hb dX6_append_15 rfl (lv_at hl 0 rfl) ?_
    refine km_get (ci := 6) (C := RX6) (T := TX6) (N := 7) (t := 4) (i := 0) hx hb hts fi_X6_append_X6 hown hK hw (by decide) (by decide) rfl rfl 2 (by decide) (hts (.fieldLink RX6 22 "WrongWord$Tape" "length" "I") ow_X6_append_22) rfl dX6_append_16 ?_
    refine lv_iload_n hx hb dX6_append_19 rfl (lv_at hl 1 rfl) ?_
    have hb2 : ¬ (v 4 0 2 < 0 ∨ 100 ≤ Int32.toNatClampNeg (v 4 0 2)) := fun q => hs (hF.trans (if_pos q))
    have hF := hF.trans (if_neg hb2)
    refine km_iast (t := 5) (i := 0) (n := 100) hx hb hK hw (by decide) (by decide) (fun _ => rfl) hb2 dX6_append_20 (fun H locs hw => ?_)
    obtain ⟨v3, ev3⟩ : ∃ z, z = up3 v 5 0 (Int32.toNatClampNeg (v 4 0 2)) a1 := ⟨_, rfl⟩
    rw [← ev3] at hw
    have hF := hF.trans (kb_some (congrArg some ev3.symm) _)
    refine lv_aload_n hx hb dX6_append_21 rfl (lv_at hl 0 rfl) ?_
    refine lv_dup hx hb dX6_append_22 rfl ?_
    refine km_get (ci := 6) (C := RX6) (T := TX6) (N := 7) (t := 4) (i := 0) hx hb hts fi_X6_append_X6 hown hK hw (by decide) (by decide) rfl rfl 2 (by decide) (hts (.fieldLink RX6 22 "WrongWord$Tape" "length" "I") ow_X6_append_22) rfl dX6_append_23 ?_
    refine lv_iconst (v := 1) hx hb dX6_append_26 (by decide) ?_
    refine lv_iadd hx hb dX6_append_27 ?_
    refine km_put (ci := 6) (C := RX6) (T := TX6) (N := 7) (t := 4) (i := 0) hx hb hts fi_X6_append_X6 tyX6 tyX6_ok nmX6 hown hK hw (by decide) (by decide) rfl rfl 2 (by decide) (hts (.fieldLink RX6 22 "WrongWord$Tape" "length" "I") ow_X6_append_22) rfl (by decide +kernel) (Nat.le_of_ble_eq_true rfl) rfl dX6_append_28 (fun H locs hw => ?_)
    obtain ⟨v4, ev4⟩ : ∃ z, z = up3 v3 4 0 2 ((v3 4 0 2) + 1) := ⟨_, rfl⟩
    rw [← ev4] at hw
    have hF := hF.trans (kb_some (congrArg some ev4.symm) _)
    refine lv_iconst (v := 1) hx hb dX6_append_31 (by decide) ?_
    exact hret _ _ _ _ _ _ hw dX6_append_32 (Or.inr rfl) hF
  · skip
    have hF := hF.trans (if_neg c1)
    refine lv_iconst (v := 0) hx hb dX6_append_9 (by decide) ?_
    exact hret _ _ _ _ _ _ hw dX6_append_10 (Or.inl rfl) hF
abbrev rmX6_here : Room := { frames := 0, cells := 0, slots := 0, locals := 0 }
def g_X6_here (v : Mm)  : Option (Int32) := if v 4 0 2 ≤ v 4 0 5 then (some ((-1))) else (if v 4 0 5 < 0 ∨ 100 ≤ Int32.toNatClampNeg (v 4 0 5) then none else (some (v 5 0 (Int32.toNatClampNeg (v 4 0 5)))))
set_option maxHeartbeats 4000000 in
set_option maxRecDepth 100000 in
theorem d_X6_here (l : Launch) (E : kq_T) (Z : km_Z) (v : Mm) (hs : g_X6_here v ≠ none) : km_I l E Z cntX yX6_here wsX6_here rmX6_here [.ref (Z.1 4 0)] v (fun r v1 => g_X6_here v = some r ∧ v = v1) := by
  refine km_goI (cc := cX6_here) (maxL := 1) (by decide) rfl (Nat.le_of_ble_eq_true rfl) rfl rfl rfl ?_
  intro p e s m below meth c A ls Q C hK hw hl hret
  obtain ⟨hx, hb, hml, hown, hts, -, -, -⟩ := C
  have hown : s.vm.findClass RX6 = some m.cls := hown
  have hl : lv_has ls 1 [(0, .ref (Z.1 4 0))] := hl
  have hF := g_X6_here.eq_1 v 
  refine lv_aload_n hx hb dX6_here_0 rfl (lv_at hl 0 rfl) ?_
  refine km_get (ci := 6) (C := RX6) (T := TX6) (N := 7) (t := 4) (i := 0) hx hb hts fi_X6_here_X6 hown hK hw (by decide) (by decide) rfl rfl 5 (by decide) (hts (.fieldLink RX6 26 "WrongWord$Tape" "at" "I") ow_X6_here_26) rfl dX6_here_1 ?_
  refine lv_aload_n hx hb dX6_here_4 rfl (lv_at hl 0 rfl) ?_
  refine km_get (ci := 6) (C := RX6) (T := TX6) (N := 7) (t := 4) (i := 0) hx hb hts fi_X6_here_X6 hown hK hw (by decide) (by decide) rfl rfl 2 (by decide) (hts (.fieldLink RX6 22 "WrongWord$Tape" "length" "I") ow_X6_here_22) rfl dX6_here_5 ?_
  refine lv_icmp_ge (tgt := 23) hx hb dX6_here_8 (by decide) (fun c1 => ?_) (fun c1 => ?_)
  · skip
    have hF := hF.trans (if_pos c1)
    refine lv_iconst (v := (-1)) hx hb dX6_here_23 (by decide) ?_
    exact hret _ _ _ _ _ _ hw dX6_here_24 ⟨hF, rfl⟩
  · skip
    have hF := hF.trans (if_neg c1)
    refine lv_aload_n hx hb dX6_here_11 rfl (lv_at hl 0 rfl) ?_
    refine km_get (ci := 6) (C := RX6) (T := TX6) (N := 7) (t := 4) (i := 0) hx hb hts fi_X6_here_X6 hown hK hw (by decide) (by decide) rfl rfl 0 (by decide) (hts (.fieldLink RX6 9 "WrongWord$Tape" "bytes" "[I") ow_X6_here_9) rfl dX6_here_12 ?_
    refine lv_aload_n hx hb dX6_here_15 rfl (lv_at hl 0 rfl) ?_
    refine km_get (ci := 6) (C := RX6) (T := TX6) (N := 7) (t := 4) (i := 0) hx hb hts fi_X6_here_X6 hown hK hw (by decide) (by decide) rfl rfl 5 (by decide) (hts (.fieldLink RX6 26 "WrongWord$Tape" "at" "I") ow_X6_here_26) rfl dX6_here_16 ?_
    have hb2 : ¬ (v 4 0 5 < 0 ∨ 100 ≤ Int32.toNatClampNeg (v 4 0 5)) := fun q => hs (hF.trans (if_pos q))
    have hF := hF.trans (if_neg hb2)
    refine km_iald (t := 5) (i := 0) hx hb hK hw (by decide) (by decide) rfl hb2 dX6_here_19 ?_
    refine lv_goto (tgt := 24) hx hb dX6_here_20 (by decide) ?_
    exact hret _ _ _ _ _ _ hw dX6_here_24 ⟨hF, rfl⟩
abbrev rmX6_faulty : Room := { frames := 0, cells := 0, slots := 0, locals := 0 }
def g_X6_faulty (v : Mm) (a1 : Int32) : Option (Int32 × Mm) := Option.bind (some (up3 v 4 0 3 a1)) (fun v1 => Option.bind (some (up3 v1 4 0 4 (v1 4 0 5))) (fun v2 => some (0, v2)))
set_option maxHeartbeats 4000000 in
set_option maxRecDepth 100000 in
theorem d_X6_faulty (l : Launch) (E : kq_T) (Z : km_Z) (v : Mm) (a1 : Int32) (hs : g_X6_faulty v a1 ≠ none) : km_I l E Z cntX yX6_faulty wsX6_faulty rmX6_faulty [.ref (Z.1 4 0), .int a1] v (fun r v1 => (g_X6_faulty v a1 = some (r, v1)) ∧ (r = 0 ∨ r = 1)) := by
  refine km_goZ (cc := cX6_faulty) (maxL := 2) (post := fun r v1 => g_X6_faulty v a1 = some (r, v1)) (by decide) rfl (Nat.le_of_ble_eq_true rfl) rfl rfl rfl ?_
  intro p e s m below meth c A ls Q C hK hw hl hret
  obtain ⟨hx, hb, hml, hown, hts, -, -, -⟩ := C
  have hown : s.vm.findClass RX6 = some m.cls := hown
  have hl : lv_has ls 2 [(0, .ref (Z.1 4 0)), (1, .int a1)] := hl
  have hF := g_X6_faulty.eq_1 v a1
  refine lv_aload_n hx hb dX6_faulty_0 rfl (lv_at hl 0 rfl) ?_
  refine lv_iload_n hx hb dX6_faulty_1 rfl (lv_at hl 1 rfl) ?_
  refine km_put (ci := 6) (C := RX6) (T := TX6) (N := 7) (t := 4) (i := 0) hx hb hts fi_X6_faulty_X6 tyX6 tyX6_ok nmX6 hown hK hw (by decide) (by decide) rfl rfl 3 (by decide) (hts (.fieldLink RX6 105 "WrongWord$Tape" "fault" "I") ow_X6_faulty_105) rfl (by decide +kernel) (Nat.le_of_ble_eq_true rfl) rfl dX6_faulty_2 (fun H locs hw => ?_)
  obtain ⟨v1, ev1⟩ : ∃ z, z = up3 v 4 0 3 a1 := ⟨_, rfl⟩
  rw [← ev1] at hw
  have hF := hF.trans (kb_some (congrArg some ev1.symm) _)
  refine lv_aload_n hx hb dX6_faulty_5 rfl (lv_at hl 0 rfl) ?_
  refine lv_aload_n hx hb dX6_faulty_6 rfl (lv_at hl 0 rfl) ?_
  refine km_get (ci := 6) (C := RX6) (T := TX6) (N := 7) (t := 4) (i := 0) hx hb hts fi_X6_faulty_X6 hown hK hw (by decide) (by decide) rfl rfl 5 (by decide) (hts (.fieldLink RX6 26 "WrongWord$Tape" "at" "I") ow_X6_faulty_26) rfl dX6_faulty_7 ?_
  refine km_put (ci := 6) (C := RX6) (T := TX6) (N := 7) (t := 4) (i := 0) hx hb hts fi_X6_faulty_X6 tyX6 tyX6_ok nmX6 hown hK hw (by decide) (by decide) rfl rfl 4 (by decide) (hts (.fieldLink RX6 108 "WrongWord$Tape" "place" "I") ow_X6_faulty_108) rfl (by decide +kernel) (Nat.le_of_ble_eq_true rfl) rfl dX6_faulty_10 (fun H locs hw => ?_)
  obtain ⟨v2, ev2⟩ : ∃ z, z = up3 v1 4 0 4 (v1 4 0 5) := ⟨_, rfl⟩
  rw [← ev2] at hw
  have hF := hF.trans (kb_some (congrArg some ev2.symm) _)
  refine lv_iconst (v := 0) hx hb dX6_faulty_13 (by decide) ?_
  exact hret _ _ _ _ _ _ hw dX6_faulty_14 (Or.inl rfl) hF
abbrev rmX6_readSign : Room := { frames := 1, cells := 0, slots := 0, locals := 21 }
def g_X6_readSign (v : Mm) (a1 : Int32) : Option (Int32 × Mm) := Option.bind (g_X6_here v) (fun r2 => if r2 = a1 then (Option.bind (some (up3 v 4 0 5 ((v 4 0 5) + 1))) (fun v5 => some (1, v5))) else (kb2 (g_X6_faulty v 1) (fun r7 v8 => some (r7, v8))))
set_option maxHeartbeats 4000000 in
set_option maxRecDepth 100000 in
theorem d_X6_readSign (l : Launch) (E : kq_T) (Z : km_Z) (v : Mm) (a1 : Int32) (hs : g_X6_readSign v a1 ≠ none) : km_I l E Z cntX yX6_readSign wsX6_readSign rmX6_readSign [.ref (Z.1 4 0), .int a1] v (fun r v1 => (g_X6_readSign v a1 = some (r, v1)) ∧ (r = 0 ∨ r = 1)) := by
  refine km_goZ (cc := cX6_readSign) (maxL := 2) (post := fun r v1 => g_X6_readSign v a1 = some (r, v1)) (by decide) rfl (Nat.le_of_ble_eq_true rfl) rfl rfl rfl ?_
  intro p e s m below meth c A ls Q C hK hw hl hret
  obtain ⟨hx, hb, hml, hown, hts, -, -, -⟩ := C
  have hown : s.vm.findClass RX6 = some m.cls := hown
  have hl : lv_has ls 2 [(0, .ref (Z.1 4 0)), (1, .int a1)] := hl
  have hF := g_X6_readSign.eq_1 v a1
  refine lv_aload_n hx hb dX6_readSign_0 rfl (lv_at hl 0 rfl) ?_
  have hs1 : g_X6_here v ≠ none := fun q => hs (hF.trans (kb_n q _))
  refine km_cI (As := []) (rest := []) (n := 0) (q := (RX6, TX6, 7)) (ci := 6) (t := 4) (i := 0) ⟨hx, hb, hml, hown, hts⟩ (d_X6_here l E Z v  hs1) gX6_readSign_X6_here rfl hV_X6_here ⟨Nat.le_of_ble_eq_true rfl, Nat.le_of_ble_eq_true rfl⟩ hK hw (by decide) (by decide) rfl rfl rfl hl.1 rfl (Nat.le_of_ble_eq_true rfl) dX6_readSign_1 rfl rfl (fun r2 v3 H locs hp hw => ?_)
  obtain ⟨hp, rfl⟩ := hp
  have hF := hF.trans (kb_some hp _)
  refine lv_iload_n hx hb dX6_readSign_4 rfl (lv_at hl 1 rfl) ?_
  refine lv_icmp_eq (tgt := 14) hx hb dX6_readSign_5 (by decide) (fun c4 => ?_) (fun c4 => ?_)
  · skip
    have hF := hF.trans (if_pos c4)
    refine lv_aload_n hx hb dX6_readSign_14 rfl (lv_at hl 0 rfl) ?_
    refine lv_dup hx hb dX6_readSign_15 rfl ?_
    refine km_get (ci := 6) (C := RX6) (T := TX6) (N := 7) (t := 4) (i := 0) hx hb hts fi_X6_readSign_X6 hown hK hw (by decide) (by decide) rfl rfl 5 (by decide) (hts (.fieldLink RX6 26 "WrongWord$Tape" "at" "I") ow_X6_readSign_26) rfl dX6_readSign_16 ?_
    refine lv_iconst (v := 1) hx hb dX6_readSign_19 (by decide) ?_
    refine lv_iadd hx hb dX6_readSign_20 ?_
    refine km_put (ci := 6) (C := RX6) (T := TX6) (N := 7) (t := 4) (i := 0) hx hb hts fi_X6_readSign_X6 tyX6 tyX6_ok nmX6 hown hK hw (by decide) (by decide) rfl rfl 5 (by decide) (hts (.fieldLink RX6 26 "WrongWord$Tape" "at" "I") ow_X6_readSign_26) rfl (by decide +kernel) (Nat.le_of_ble_eq_true rfl) rfl dX6_readSign_21 (fun H locs hw => ?_)
    obtain ⟨v5, ev5⟩ : ∃ z, z = up3 v 4 0 5 ((v 4 0 5) + 1) := ⟨_, rfl⟩
    rw [← ev5] at hw
    have hF := hF.trans (kb_some (congrArg some ev5.symm) _)
    refine lv_iconst (v := 1) hx hb dX6_readSign_24 (by decide) ?_
    exact hret _ _ _ _ _ _ hw dX6_readSign_25 (Or.inr rfl) hF
  · skip
    have hF := hF.trans (if_neg c4)
    refine lv_aload_n hx hb dX6_readSign_8 rfl (lv_at hl 0 rfl) ?_
    refine lv_iconst (v := 1) hx hb dX6_readSign_9 (by decide) ?_
    have hs6 : g_X6_faulty v 1 ≠ none := fun q => hs (hF.trans (kb2_n q _))
    refine km_cI (As := [.int 1]) (rest := []) (n := 1) (q := (RX6, TX6, 7)) (ci := 6) (t := 4) (i := 0) ⟨hx, hb, hml, hown, hts⟩ (d_X6_faulty l E Z v 1 hs6) gX6_readSign_X6_faulty rfl hV_X6_faulty ⟨Nat.le_of_ble_eq_true rfl, Nat.le_of_ble_eq_true rfl⟩ hK hw (by decide) (by decide) rfl rfl rfl hl.1 rfl (Nat.le_of_ble_eq_true rfl) dX6_readSign_10 rfl rfl (fun r7 v8 H locs hp hw => ?_)
    obtain ⟨hp, hzr7⟩ := hp
    have hF := hF.trans (kb2_some hp _)
    exact hret _ _ _ _ _ _ hw dX6_readSign_13 hzr7 hF
abbrev rmX6_isFigure : Room := { frames := 0, cells := 0, slots := 0, locals := 0 }
def g_X6_isFigure (v : Mm) (a0 : Int32) : Option (Int32) := if a0 < 48 then (some 0) else (if 57 < a0 then (some 0) else (some 1))
set_option maxHeartbeats 4000000 in
set_option maxRecDepth 100000 in
theorem d_X6_isFigure (l : Launch) (E : kq_T) (Z : km_Z) (v : Mm) (a0 : Int32) (hs : g_X6_isFigure v a0 ≠ none) : km_I l E Z cntX yX6_isFigure wsX6_isFigure rmX6_isFigure [.int a0] v (fun r v1 => (g_X6_isFigure v a0 = some r ∧ v = v1) ∧ (r = 0 ∨ r = 1)) := by
  refine km_goZ (cc := cX6_isFigure) (maxL := 1) (post := fun r v1 => g_X6_isFigure v a0 = some r ∧ v = v1) (by decide) rfl (Nat.le_of_ble_eq_true rfl) rfl rfl rfl ?_
  intro p e s m below meth c A ls Q C hK hw hl hret
  obtain ⟨hx, hb, hml, hown, hts, -, -, -⟩ := C
  have hown : s.vm.findClass RX6 = some m.cls := hown
  have hl : lv_has ls 1 [(0, .int a0)] := hl
  have hF := g_X6_isFigure.eq_1 v a0
  refine lv_iload_n hx hb dX6_isFigure_0 rfl (lv_at hl 0 rfl) ?_
  refine lv_bipush (v := 48) hx hb dX6_isFigure_1 (by decide) ?_
  refine lv_icmp_lt (tgt := 16) hx hb dX6_isFigure_3 (by decide) (fun c1 => ?_) (fun c1 => ?_)
  · skip
    have hF := hF.trans (if_pos c1)
    refine lv_iconst (v := 0) hx hb dX6_isFigure_16 (by decide) ?_
    exact hret _ _ _ _ _ _ hw dX6_isFigure_17 (Or.inl rfl) ⟨hF, rfl⟩
  · skip
    have hF := hF.trans (if_neg c1)
    refine lv_iload_n hx hb dX6_isFigure_6 rfl (lv_at hl 0 rfl) ?_
    refine lv_bipush (v := 57) hx hb dX6_isFigure_7 (by decide) ?_
    refine lv_icmp_gt (tgt := 16) hx hb dX6_isFigure_9 (by decide) (fun c2 => ?_) (fun c2 => ?_)
    · skip
      have hF := hF.trans (if_pos c2)
      refine lv_iconst (v := 0) hx hb dX6_isFigure_16 (by decide) ?_
      exact hret _ _ _ _ _ _ hw dX6_isFigure_17 (Or.inl rfl) ⟨hF, rfl⟩
    · skip
      have hF := hF.trans (if_neg c2)
      refine lv_iconst (v := 1) hx hb dX6_isFigure_12 (by decide) ?_
      refine lv_goto (tgt := 17) hx hb dX6_isFigure_13 (by decide) ?_
      exact hret _ _ _ _ _ _ hw dX6_isFigure_17 (Or.inr rfl) ⟨hF, rfl⟩
abbrev rmX6_readNumber : Room := { frames := 1, cells := 0, slots := 0, locals := 21 }
def b_X6_readNumber_L12  (rec12 : Mm → Int32 → Int32 → Option (Int32 × Mm)) (a1 : Int32) (w12 : Mm) (x2_12 : Int32) (x3_12 : Int32) : Option (Int32 × Mm) := if w12 4 0 2 ≤ x3_12 then (if x2_12 = 0 then (kb2 (g_X6_faulty w12 1) (fun r5 v6 => some (r5, v6))) else (if x2_12 ≤ 2 then (if w12 4 0 6 ≤ a1 then (Option.bind (some (up3 w12 4 0 5 ((w12 4 0 5) + x2_12))) (fun v9 => some (1, v9))) else (kb2 (g_X6_faulty w12 2) (fun r11 v12 => some (r11, v12)))) else (kb2 (g_X6_faulty w12 1) (fun r14 v15 => some (r14, v15))))) else (if 3 ≤ x2_12 then (if x2_12 = 0 then (kb2 (g_X6_faulty w12 1) (fun r19 v20 => some (r19, v20))) else (if x2_12 ≤ 2 then (if w12 4 0 6 ≤ a1 then (Option.bind (some (up3 w12 4 0 5 ((w12 4 0 5) + x2_12))) (fun v23 => some (1, v23))) else (kb2 (g_X6_faulty w12 2) (fun r25 v26 => some (r25, v26)))) else (kb2 (g_X6_faulty w12 1) (fun r28 v29 => some (r28, v29))))) else (if x3_12 < 0 ∨ 100 ≤ Int32.toNatClampNeg x3_12 then none else (Option.bind (g_X6_isFigure w12 (w12 5 0 (Int32.toNatClampNeg x3_12))) (fun r32 => if r32 = 0 then (if x2_12 = 0 then (kb2 (g_X6_faulty w12 1) (fun r37 v38 => some (r37, v38))) else (if x2_12 ≤ 2 then (if w12 4 0 6 ≤ a1 then (Option.bind (some (up3 w12 4 0 5 ((w12 4 0 5) + x2_12))) (fun v41 => some (1, v41))) else (kb2 (g_X6_faulty w12 2) (fun r43 v44 => some (r43, v44)))) else (kb2 (g_X6_faulty w12 1) (fun r46 v47 => some (r46, v47))))) else (if x3_12 < 0 ∨ 100 ≤ Int32.toNatClampNeg x3_12 then none else (Option.bind (some (up3 w12 4 0 6 ((((w12 4 0 6) * 10) + (w12 5 0 (Int32.toNatClampNeg x3_12))) - 48))) (fun v49 => rec12 v49 (x2_12 + 1) (x3_12 + 1))))))))
def g_X6_readNumber_L12  (a1 : Int32) : Nat → Mm → Int32 → Int32 → Option (Int32 × Mm)
  | 0 => fun _ _ _ => none
  | n + 1 => b_X6_readNumber_L12  (g_X6_readNumber_L12  a1 n) a1
def g_X6_readNumber (v : Mm) (a1 : Int32) : Option (Int32 × Mm) := Option.bind (some (up3 v 4 0 6 0)) (fun v1 => g_X6_readNumber_L12  a1 2000 v1 0 (v1 4 0 5))
set_option maxHeartbeats 4000000 in
set_option maxRecDepth 100000 in
theorem d_X6_readNumber (l : Launch) (E : kq_T) (Z : km_Z) (v : Mm) (a1 : Int32) (hs : g_X6_readNumber v a1 ≠ none) : km_I l E Z cntX yX6_readNumber wsX6_readNumber rmX6_readNumber [.ref (Z.1 4 0), .int a1] v (fun r v1 => (g_X6_readNumber v a1 = some (r, v1)) ∧ (r = 0 ∨ r = 1)) := by
  refine km_goZ (cc := cX6_readNumber) (maxL := 4) (post := fun r v1 => g_X6_readNumber v a1 = some (r, v1)) (by decide) rfl (Nat.le_of_ble_eq_true rfl) rfl rfl rfl ?_
  intro p e s m below meth c A ls Q C hK hw hl hret
  obtain ⟨hx, hb, hml, hown, hts, -, -, -⟩ := C
  have hown : s.vm.findClass RX6 = some m.cls := hown
  have hl : lv_has ls 4 [(0, .ref (Z.1 4 0)), (1, .int a1)] := hl
  have hF := g_X6_readNumber.eq_1 v a1
  have loop12 : ∀ (n12 : Nat) (w12 : Mm) (x2_12 : Int32) (x3_12 : Int32) (H : Heap) (locs : List Loc) (ls : Array Slot), g_X6_readNumber v a1 = g_X6_readNumber_L12  a1 n12 w12 x2_12 x3_12 → km_w E A s.heap [] Z cntX w12 H locs → lv_has ls 4 [(0, .ref (Z.1 4 0)), (1, .int a1), (2, .int x2_12), (3, .int x3_12)] → W p l e rmX6_readNumber s m [.ref (Z.1 4 0), .int a1].toArray below meth c H locs 0 0 Q (F0 m 12 ls []) := by
    intro n12
    induction n12 with
    | zero => intro w12 x2_12 x3_12 H locs ls hF hw hl; exact absurd (show g_X6_readNumber v a1 = none from hF) hs
    | succ n12 ih12 =>
      intro w12 x2_12 x3_12 H locs ls hF hw hl
      have hF := hF.trans (b_X6_readNumber_L12.eq_1  (g_X6_readNumber_L12  a1 n12) a1 w12 x2_12 x3_12)
      refine lv_iload_n hx hb dX6_readNumber_12 rfl (lv_at hl 3 rfl) ?_
      refine lv_aload_n hx hb dX6_readNumber_13 rfl (lv_at hl 0 rfl) ?_
      refine km_get (ci := 6) (C := RX6) (T := TX6) (N := 7) (t := 4) (i := 0) hx hb hts fi_X6_readNumber_X6 hown hK hw (by decide) (by decide) rfl rfl 2 (by decide) (hts (.fieldLink RX6 22 "WrongWord$Tape" "length" "I") ow_X6_readNumber_22) rfl dX6_readNumber_14 ?_
      refine lv_icmp_ge (tgt := 67) hx hb dX6_readNumber_17 (by decide) (fun c1 => ?_) (fun c1 => ?_)
      · skip
        have hF := hF.trans (if_pos c1)
        refine lv_iload_n hx hb dX6_readNumber_67 rfl (lv_at hl 2 rfl) ?_
        refine lv_if_eq (tgt := 76) hx hb dX6_readNumber_68 (by decide) (fun c2 => ?_) (fun c2 => ?_)
        · skip
          have hF := hF.trans (if_pos c2)
          refine lv_aload_n hx hb dX6_readNumber_76 rfl (lv_at hl 0 rfl) ?_
          refine lv_iconst (v := 1) hx hb dX6_readNumber_77 (by decide) ?_
          have hs3 : g_X6_faulty w12 1 ≠ none := fun q => hs (hF.trans (kb2_n q _))
          refine km_cI (As := [.int 1]) (rest := []) (n := 1) (q := (RX6, TX6, 7)) (ci := 6) (t := 4) (i := 0) ⟨hx, hb, hml, hown, hts⟩ (d_X6_faulty l E Z w12 1 hs3) gX6_readNumber_X6_faulty rfl hV_X6_faulty ⟨Nat.le_of_ble_eq_true rfl, Nat.le_of_ble_eq_true rfl⟩ hK hw (by decide) (by decide) rfl rfl rfl hl.1 rfl (Nat.le_of_ble_eq_true rfl) dX6_readNumber_78 rfl rfl (fun r4 v5 H locs hp hw => ?_)
          obtain ⟨hp, hzr4⟩ := hp
          have hF := hF.trans (kb2_some hp _)
          exact hret _ _ _ _ _ _ hw dX6_readNumber_81 hzr4 hF
        · skip
          have hF := hF.trans (if_neg c2)
          refine lv_iload_n hx hb dX6_readNumber_71 rfl (lv_at hl 2 rfl) ?_
          refine lv_iconst (v := 2) hx hb dX6_readNumber_72 (by decide) ?_
          refine lv_icmp_le (tgt := 82) hx hb dX6_readNumber_73 (by decide) (fun c6 => ?_) (fun c6 => ?_)
          · skip
            have hF := hF.trans (if_pos c6)
            refine lv_aload_n hx hb dX6_readNumber_82 rfl (lv_at hl 0 rfl) ?_
            refine km_get (ci := 6) (C := RX6) (T := TX6) (N := 7) (t := 4) (i := 0) hx hb hts fi_X6_readNumber_X6 hown hK hw (by decide) (by decide) rfl rfl 6 (by decide) (hts (.fieldLink RX6 66 "WrongWord$Tape" "value" "I") ow_X6_readNumber_66) rfl dX6_readNumber_83 ?_
            refine lv_iload_n hx hb dX6_readNumber_86 rfl (lv_at hl 1 rfl) ?_
            refine lv_icmp_le (tgt := 96) hx hb dX6_readNumber_87 (by decide) (fun c7 => ?_) (fun c7 => ?_)
            · skip
              have hF := hF.trans (if_pos c7)
              refine lv_aload_n hx hb dX6_readNumber_96 rfl (lv_at hl 0 rfl) ?_
              refine lv_dup hx hb dX6_readNumber_97 rfl ?_
              refine km_get (ci := 6) (C := RX6) (T := TX6) (N := 7) (t := 4) (i := 0) hx hb hts fi_X6_readNumber_X6 hown hK hw (by decide) (by decide) rfl rfl 5 (by decide) (hts (.fieldLink RX6 26 "WrongWord$Tape" "at" "I") ow_X6_readNumber_26) rfl dX6_readNumber_98 ?_
              refine lv_iload_n hx hb dX6_readNumber_101 rfl (lv_at hl 2 rfl) ?_
              refine lv_iadd hx hb dX6_readNumber_102 ?_
              refine km_put (ci := 6) (C := RX6) (T := TX6) (N := 7) (t := 4) (i := 0) hx hb hts fi_X6_readNumber_X6 tyX6 tyX6_ok nmX6 hown hK hw (by decide) (by decide) rfl rfl 5 (by decide) (hts (.fieldLink RX6 26 "WrongWord$Tape" "at" "I") ow_X6_readNumber_26) rfl (by decide +kernel) (Nat.le_of_ble_eq_true rfl) rfl dX6_readNumber_103 (fun H locs hw => ?_)
              obtain ⟨v8, ev8⟩ : ∃ z, z = up3 w12 4 0 5 ((w12 4 0 5) + x2_12) := ⟨_, rfl⟩
              rw [← ev8] at hw
              have hF := hF.trans (kb_some (congrArg some ev8.symm) _)
              refine lv_iconst (v := 1) hx hb dX6_readNumber_106 (by decide) ?_
              exact hret _ _ _ _ _ _ hw dX6_readNumber_107 (Or.inr rfl) hF
            · skip
              have hF := hF.trans (if_neg c7)
              refine lv_aload_n hx hb dX6_readNumber_90 rfl (lv_at hl 0 rfl) ?_
              refine lv_iconst (v := 2) hx hb dX6_readNumber_91 (by decide) ?_
              have hs9 : g_X6_faulty w12 2 ≠ none := fun q => hs (hF.trans (kb2_n q _))
              refine km_cI (As := [.int 2]) (rest := []) (n := 1) (q := (RX6, TX6, 7)) (ci := 6) (t := 4) (i := 0) ⟨hx, hb, hml, hown, hts⟩ (d_X6_faulty l E Z w12 2 hs9) gX6_readNumber_X6_faulty rfl hV_X6_faulty ⟨Nat.le_of_ble_eq_true rfl, Nat.le_of_ble_eq_true rfl⟩ hK hw (by decide) (by decide) rfl rfl rfl hl.1 rfl (Nat.le_of_ble_eq_true rfl) dX6_readNumber_92 rfl rfl (fun r10 v11 H locs hp hw => ?_)
              obtain ⟨hp, hzr10⟩ := hp
              have hF := hF.trans (kb2_some hp _)
              exact hret _ _ _ _ _ _ hw dX6_readNumber_95 hzr10 hF
          · skip
            have hF := hF.trans (if_neg c6)
            refine lv_aload_n hx hb dX6_readNumber_76 rfl (lv_at hl 0 rfl) ?_
            refine lv_iconst (v := 1) hx hb dX6_readNumber_77 (by decide) ?_
            have hs12 : g_X6_faulty w12 1 ≠ none := fun q => hs (hF.trans (kb2_n q _))
            refine km_cI (As := [.int 1]) (rest := []) (n := 1) (q := (RX6, TX6, 7)) (ci := 6) (t := 4) (i := 0) ⟨hx, hb, hml, hown, hts⟩ (d_X6_faulty l E Z w12 1 hs12) gX6_readNumber_X6_faulty rfl hV_X6_faulty ⟨Nat.le_of_ble_eq_true rfl, Nat.le_of_ble_eq_true rfl⟩ hK hw (by decide) (by decide) rfl rfl rfl hl.1 rfl (Nat.le_of_ble_eq_true rfl) dX6_readNumber_78 rfl rfl (fun r13 v14 H locs hp hw => ?_)
            obtain ⟨hp, hzr13⟩ := hp
            have hF := hF.trans (kb2_some hp _)
            exact hret _ _ _ _ _ _ hw dX6_readNumber_81 hzr13 hF
      · skip
        have hF := hF.trans (if_neg c1)
        refine lv_iload_n hx hb dX6_readNumber_20 rfl (lv_at hl 2 rfl) ?_
        refine lv_iconst (v := 3) hx hb dX6_readNumber_21 (by decide) ?_
        refine lv_icmp_ge (tgt := 67) hx hb dX6_readNumber_22 (by decide) (fun c15 => ?_) (fun c15 => ?_)
        · skip
          have hF := hF.trans (if_pos c15)
          refine lv_iload_n hx hb dX6_readNumber_67 rfl (lv_at hl 2 rfl) ?_
          refine lv_if_eq (tgt := 76) hx hb dX6_readNumber_68 (by decide) (fun c16 => ?_) (fun c16 => ?_)
          · skip
            have hF := hF.trans (if_pos c16)
            refine lv_aload_n hx hb dX6_readNumber_76 rfl (lv_at hl 0 rfl) ?_
            refine lv_iconst (v := 1) hx hb dX6_readNumber_77 (by decide) ?_
            have hs17 : g_X6_faulty w12 1 ≠ none := fun q => hs (hF.trans (kb2_n q _))
            refine km_cI (As := [.int 1]) (rest := []) (n := 1) (q := (RX6, TX6, 7)) (ci := 6) (t := 4) (i := 0) ⟨hx, hb, hml, hown, hts⟩ (d_X6_faulty l E Z w12 1 hs17) gX6_readNumber_X6_faulty rfl hV_X6_faulty ⟨Nat.le_of_ble_eq_true rfl, Nat.le_of_ble_eq_true rfl⟩ hK hw (by decide) (by decide) rfl rfl rfl hl.1 rfl (Nat.le_of_ble_eq_true rfl) dX6_readNumber_78 rfl rfl (fun r18 v19 H locs hp hw => ?_)
            obtain ⟨hp, hzr18⟩ := hp
            have hF := hF.trans (kb2_some hp _)
            exact hret _ _ _ _ _ _ hw dX6_readNumber_81 hzr18 hF
          · skip
            have hF := hF.trans (if_neg c16)
            refine lv_iload_n hx hb dX6_readNumber_71 rfl (lv_at hl 2 rfl) ?_
            refine lv_iconst (v := 2) hx hb dX6_readNumber_72 (by decide) ?_
            refine lv_icmp_le (tgt := 82) hx hb dX6_readNumber_73 (by decide) (fun c20 => ?_) (fun c20 => ?_)
            · skip
              have hF := hF.trans (if_pos c20)
              refine lv_aload_n hx hb dX6_readNumber_82 rfl (lv_at hl 0 rfl) ?_
              refine km_get (ci := 6) (C := RX6) (T := TX6) (N := 7) (t := 4) (i := 0) hx hb hts fi_X6_readNumber_X6 hown hK hw (by decide) (by decide) rfl rfl 6 (by decide) (hts (.fieldLink RX6 66 "WrongWord$Tape" "value" "I") ow_X6_readNumber_66) rfl dX6_readNumber_83 ?_
              refine lv_iload_n hx hb dX6_readNumber_86 rfl (lv_at hl 1 rfl) ?_
              refine lv_icmp_le (tgt := 96) hx hb dX6_readNumber_87 (by decide) (fun c21 => ?_) (fun c21 => ?_)
              · skip
                have hF := hF.trans (if_pos c21)
                refine lv_aload_n hx hb dX6_readNumber_96 rfl (lv_at hl 0 rfl) ?_
                refine lv_dup hx hb dX6_readNumber_97 rfl ?_
                refine km_get (ci := 6) (C := RX6) (T := TX6) (N := 7) (t := 4) (i := 0) hx hb hts fi_X6_readNumber_X6 hown hK hw (by decide) (by decide) rfl rfl 5 (by decide) (hts (.fieldLink RX6 26 "WrongWord$Tape" "at" "I") ow_X6_readNumber_26) rfl dX6_readNumber_98 ?_
                refine lv_iload_n hx hb dX6_readNumber_101 rfl (lv_at hl 2 rfl) ?_
                refine lv_iadd hx hb dX6_readNumber_102 ?_
                refine km_put (ci := 6) (C := RX6) (T := TX6) (N := 7) (t := 4) (i := 0) hx hb hts fi_X6_readNumber_X6 tyX6 tyX6_ok nmX6 hown hK hw (by decide) (by decide) rfl rfl 5 (by decide) (hts (.fieldLink RX6 26 "WrongWord$Tape" "at" "I") ow_X6_readNumber_26) rfl (by decide +kernel) (Nat.le_of_ble_eq_true rfl) rfl dX6_readNumber_103 (fun H locs hw => ?_)
                obtain ⟨v22, ev22⟩ : ∃ z, z = up3 w12 4 0 5 ((w12 4 0 5) + x2_12) := ⟨_, rfl⟩
                rw [← ev22] at hw
                have hF := hF.trans (kb_some (congrArg some ev22.symm) _)
                refine lv_iconst (v := 1) hx hb dX6_readNumber_106 (by decide) ?_
                exact hret _ _ _ _ _ _ hw dX6_readNumber_107 (Or.inr rfl) hF
              · skip
                have hF := hF.trans (if_neg c21)
                refine lv_aload_n hx hb dX6_readNumber_90 rfl (lv_at hl 0 rfl) ?_
                refine lv_iconst (v := 2) hx hb dX6_readNumber_91 (by decide) ?_
                have hs23 : g_X6_faulty w12 2 ≠ none := fun q => hs (hF.trans (kb2_n q _))
                refine km_cI (As := [.int 2]) (rest := []) (n := 1) (q := (RX6, TX6, 7)) (ci := 6) (t := 4) (i := 0) ⟨hx, hb, hml, hown, hts⟩ (d_X6_faulty l E Z w12 2 hs23) gX6_readNumber_X6_faulty rfl hV_X6_faulty ⟨Nat.le_of_ble_eq_true rfl, Nat.le_of_ble_eq_true rfl⟩ hK hw (by decide) (by decide) rfl rfl rfl hl.1 rfl (Nat.le_of_ble_eq_true rfl) dX6_readNumber_92 rfl rfl (fun r24 v25 H locs hp hw => ?_)
                obtain ⟨hp, hzr24⟩ := hp
                have hF := hF.trans (kb2_some hp _)
                exact hret _ _ _ _ _ _ hw dX6_readNumber_95 hzr24 hF
            · skip
              have hF := hF.trans (if_neg c20)
              refine lv_aload_n hx hb dX6_readNumber_76 rfl (lv_at hl 0 rfl) ?_
              refine lv_iconst (v := 1) hx hb dX6_readNumber_77 (by decide) ?_
              have hs26 : g_X6_faulty w12 1 ≠ none := fun q => hs (hF.trans (kb2_n q _))
              refine km_cI (As := [.int 1]) (rest := []) (n := 1) (q := (RX6, TX6, 7)) (ci := 6) (t := 4) (i := 0) ⟨hx, hb, hml, hown, hts⟩ (d_X6_faulty l E Z w12 1 hs26) gX6_readNumber_X6_faulty rfl hV_X6_faulty ⟨Nat.le_of_ble_eq_true rfl, Nat.le_of_ble_eq_true rfl⟩ hK hw (by decide) (by decide) rfl rfl rfl hl.1 rfl (Nat.le_of_ble_eq_true rfl) dX6_readNumber_78 rfl rfl (fun r27 v28 H locs hp hw => ?_)
              obtain ⟨hp, hzr27⟩ := hp
              have hF := hF.trans (kb2_some hp _)
              exact hret _ _ _ _ _ _ hw dX6_readNumber_81 hzr27 hF
        · skip
          have hF := hF.trans (if_neg c15)
          refine lv_aload_n hx hb dX6_readNumber_25 rfl (lv_at hl 0 rfl) ?_
          refine km_get (ci := 6) (C := RX6) (T := TX6) (N := 7) (t := 4) (i := 0) hx hb hts fi_X6_readNumber_X6 hown hK hw (by decide) (by decide) rfl rfl 0 (by decide) (hts (.fieldLink RX6 9 "WrongWord$Tape" "bytes" "[I") ow_X6_readNumber_9) rfl dX6_readNumber_26 ?_
          refine lv_iload_n hx hb dX6_readNumber_29 rfl (lv_at hl 3 rfl) ?_
          have hb29 : ¬ (x3_12 < 0 ∨ 100 ≤ Int32.toNatClampNeg x3_12) := fun q => hs (hF.trans (if_pos q))
          have hF := hF.trans (if_neg hb29)
          refine km_iald (t := 5) (i := 0) hx hb hK hw (by decide) (by decide) rfl hb29 dX6_readNumber_30 ?_
          have hs30 : g_X6_isFigure w12 (w12 5 0 (Int32.toNatClampNeg x3_12)) ≠ none := fun q => hs (hF.trans (kb_n q _))
          refine km_cS (As := [.int (w12 5 0 (Int32.toNatClampNeg x3_12))]) (rest := []) (n := 1) ⟨hx, hb, hml, hown, hts⟩ (d_X6_isFigure l E Z w12 (w12 5 0 (Int32.toNatClampNeg x3_12)) hs30) gX6_readNumber_X6_isFigure rfl hV_X6_isFigure ⟨Nat.le_of_ble_eq_true rfl, Nat.le_of_ble_eq_true rfl⟩ hK hw rfl hl.1 rfl (Nat.le_of_ble_eq_true rfl) dX6_readNumber_31 rfl rfl (fun r31 v32 H locs hp hw => ?_)
          obtain ⟨hp, hzr31⟩ := hp
          obtain ⟨hp, rfl⟩ := hp
          have hF := hF.trans (kb_some hp _)
          refine lv_if_eq (tgt := 67) hx hb dX6_readNumber_34 (by decide) (fun c33 => ?_) (fun c33 => ?_)
          · skip
            have hF := hF.trans (if_pos c33)
            refine lv_iload_n hx hb dX6_readNumber_67 rfl (lv_at hl 2 rfl) ?_
            refine lv_if_eq (tgt := 76) hx hb dX6_readNumber_68 (by decide) (fun c34 => ?_) (fun c34 => ?_)
            · skip
              have hF := hF.trans (if_pos c34)
              refine lv_aload_n hx hb dX6_readNumber_76 rfl (lv_at hl 0 rfl) ?_
              refine lv_iconst (v := 1) hx hb dX6_readNumber_77 (by decide) ?_
              have hs35 : g_X6_faulty w12 1 ≠ none := fun q => hs (hF.trans (kb2_n q _))
              refine km_cI (As := [.int 1]) (rest := []) (n := 1) (q := (RX6, TX6, 7)) (ci := 6) (t := 4) (i := 0) ⟨hx, hb, hml, hown, hts⟩ (d_X6_faulty l E Z w12 1 hs35) gX6_readNumber_X6_faulty rfl hV_X6_faulty ⟨Nat.le_of_ble_eq_true rfl, Nat.le_of_ble_eq_true rfl⟩ hK hw (by decide) (by decide) rfl rfl rfl hl.1 rfl (Nat.le_of_ble_eq_true rfl) dX6_readNumber_78 rfl rfl (fun r36 v37 H locs hp hw => ?_)
              obtain ⟨hp, hzr36⟩ := hp
              have hF := hF.trans (kb2_some hp _)
              exact hret _ _ _ _ _ _ hw dX6_readNumber_81 hzr36 hF
            · skip
              have hF := hF.trans (if_neg c34)
              refine lv_iload_n hx hb dX6_readNumber_71 rfl (lv_at hl 2 rfl) ?_
              refine lv_iconst (v := 2) hx hb dX6_readNumber_72 (by decide) ?_
              refine lv_icmp_le (tgt := 82) hx hb dX6_readNumber_73 (by decide) (fun c38 => ?_) (fun c38 => ?_)
              · skip
                have hF := hF.trans (if_pos c38)
                refine lv_aload_n hx hb dX6_readNumber_82 rfl (lv_at hl 0 rfl) ?_
                refine km_get (ci := 6) (C := RX6) (T := TX6) (N := 7) (t := 4) (i := 0) hx hb hts fi_X6_readNumber_X6 hown hK hw (by decide) (by decide) rfl rfl 6 (by decide) (hts (.fieldLink RX6 66 "WrongWord$Tape" "value" "I") ow_X6_readNumber_66) rfl dX6_readNumber_83 ?_
                refine lv_iload_n hx hb dX6_readNumber_86 rfl (lv_at hl 1 rfl) ?_
                refine lv_icmp_le (tgt := 96) hx hb dX6_readNumber_87 (by decide) (fun c39 => ?_) (fun c39 => ?_)
                · skip
                  have hF := hF.trans (if_pos c39)
                  refine lv_aload_n hx hb dX6_readNumber_96 rfl (lv_at hl 0 rfl) ?_
                  refine lv_dup hx hb dX6_readNumber_97 rfl ?_
                  refine km_get (ci := 6) (C := RX6) (T := TX6) (N := 7) (t := 4) (i := 0) hx hb hts fi_X6_readNumber_X6 hown hK hw (by decide) (by decide) rfl rfl 5 (by decide) (hts (.fieldLink RX6 26 "WrongWord$Tape" "at" "I") ow_X6_readNumber_26) rfl dX6_readNumber_98 ?_
                  refine lv_iload_n hx hb dX6_readNumber_101 rfl (lv_at hl 2 rfl) ?_
                  refine lv_iadd hx hb dX6_readNumber_102 ?_
                  refine km_put (ci := 6) (C := RX6) (T := TX6) (N := 7) (t := 4) (i := 0) hx hb hts fi_X6_readNumber_X6 tyX6 tyX6_ok nmX6 hown hK hw (by decide) (by decide) rfl rfl 5 (by decide) (hts (.fieldLink RX6 26 "WrongWord$Tape" "at" "I") ow_X6_readNumber_26) rfl (by decide +kernel) (Nat.le_of_ble_eq_true rfl) rfl dX6_readNumber_103 (fun H locs hw => ?_)
                  obtain ⟨v40, ev40⟩ : ∃ z, z = up3 w12 4 0 5 ((w12 4 0 5) + x2_12) := ⟨_, rfl⟩
                  rw [← ev40] at hw
                  have hF := hF.trans (kb_some (congrArg some ev40.symm) _)
                  refine lv_iconst (v := 1) hx hb dX6_readNumber_106 (by decide) ?_
                  exact hret _ _ _ _ _ _ hw dX6_readNumber_107 (Or.inr rfl) hF
                · skip
                  have hF := hF.trans (if_neg c39)
                  refine lv_aload_n hx hb dX6_readNumber_90 rfl (lv_at hl 0 rfl) ?_
                  refine lv_iconst (v := 2) hx hb dX6_readNumber_91 (by decide) ?_
                  have hs41 : g_X6_faulty w12 2 ≠ none := fun q => hs (hF.trans (kb2_n q _))
                  refine km_cI (As := [.int 2]) (rest := []) (n := 1) (q := (RX6, TX6, 7)) (ci := 6) (t := 4) (i := 0) ⟨hx, hb, hml, hown, hts⟩ (d_X6_faulty l E Z w12 2 hs41) gX6_readNumber_X6_faulty rfl hV_X6_faulty ⟨Nat.le_of_ble_eq_true rfl, Nat.le_of_ble_eq_true rfl⟩ hK hw (by decide) (by decide) rfl rfl rfl hl.1 rfl (Nat.le_of_ble_eq_true rfl) dX6_readNumber_92 rfl rfl (fun r42 v43 H locs hp hw => ?_)
                  obtain ⟨hp, hzr42⟩ := hp
                  have hF := hF.trans (kb2_some hp _)
                  exact hret _ _ _ _ _ _ hw dX6_readNumber_95 hzr42 hF
              · skip
                have hF := hF.trans (if_neg c38)
                refine lv_aload_n hx hb dX6_readNumber_76 rfl (lv_at hl 0 rfl) ?_
                refine lv_iconst (v := 1) hx hb dX6_readNumber_77 (by decide) ?_
                have hs44 : g_X6_faulty w12 1 ≠ none := fun q => hs (hF.trans (kb2_n q _))
                refine km_cI (As := [.int 1]) (rest := []) (n := 1) (q := (RX6, TX6, 7)) (ci := 6) (t := 4) (i := 0) ⟨hx, hb, hml, hown, hts⟩ (d_X6_faulty l E Z w12 1 hs44) gX6_readNumber_X6_faulty rfl hV_X6_faulty ⟨Nat.le_of_ble_eq_true rfl, Nat.le_of_ble_eq_true rfl⟩ hK hw (by decide) (by decide) rfl rfl rfl hl.1 rfl (Nat.le_of_ble_eq_true rfl) dX6_readNumber_78 rfl rfl (fun r45 v46 H locs hp hw => ?_)
                obtain ⟨hp, hzr45⟩ := hp
                have hF := hF.trans (kb2_some hp _)
                exact hret _ _ _ _ _ _ hw dX6_readNumber_81 hzr45 hF
          · skip
            have hF := hF.trans (if_neg c33)
            refine lv_aload_n hx hb dX6_readNumber_37 rfl (lv_at hl 0 rfl) ?_
            refine lv_aload_n hx hb dX6_readNumber_38 rfl (lv_at hl 0 rfl) ?_
            refine km_get (ci := 6) (C := RX6) (T := TX6) (N := 7) (t := 4) (i := 0) hx hb hts fi_X6_readNumber_X6 hown hK hw (by decide) (by decide) rfl rfl 6 (by decide) (hts (.fieldLink RX6 66 "WrongWord$Tape" "value" "I") ow_X6_readNumber_66) rfl dX6_readNumber_39 ?_
            refine lv_bipush (v := 10) hx hb dX6_readNumber_42 (by decide) ?_
            refine lv_imul hx hb dX6_readNumber_44 ?_
            refine lv_aload_n hx hb dX6_readNumber_45 rfl (lv_at hl 0 rfl) ?_
            refine km_get (ci := 6) (C := RX6) (T := TX6) (N := 7) (t := 4) (i := 0) hx hb hts fi_X6_readNumber_X6 hown hK hw (by decide) (by decide) rfl rfl 0 (by decide) (hts (.fieldLink RX6 9 "WrongWord$Tape" "bytes" "[I") ow_X6_readNumber_9) rfl dX6_readNumber_46 ?_
            refine lv_iload_n hx hb dX6_readNumber_49 rfl (lv_at hl 3 rfl) ?_
            have hb47 : ¬ (x3_12 < 0 ∨ 100 ≤ Int32.toNatClampNeg x3_12) := fun q => hs (hF.trans (if_pos q))
            have hF := hF.trans (if_neg hb47)
            refine km_iald (t := 5) (i := 0) hx hb hK hw (by decide) (by decide) rfl hb47 dX6_readNumber_50 ?_
            refine lv_iadd hx hb dX6_readNumber_51 ?_
            refine lv_bipush (v := 48) hx hb dX6_readNumber_52 (by decide) ?_
            refine lv_isub hx hb dX6_readNumber_54 ?_
            refine km_put (ci := 6) (C := RX6) (T := TX6) (N := 7) (t := 4) (i := 0) hx hb hts fi_X6_readNumber_X6 tyX6 tyX6_ok nmX6 hown hK hw (by decide) (by decide) rfl rfl 6 (by decide) (hts (.fieldLink RX6 66 "WrongWord$Tape" "value" "I") ow_X6_readNumber_66) rfl (by decide +kernel) (Nat.le_of_ble_eq_true rfl) rfl dX6_readNumber_55 (fun H locs hw => ?_)
            obtain ⟨v48, ev48⟩ : ∃ z, z = up3 w12 4 0 6 ((((w12 4 0 6) * 10) + (w12 5 0 (Int32.toNatClampNeg x3_12))) - 48) := ⟨_, rfl⟩
            rw [← ev48] at hw
            have hF := hF.trans (kb_some (congrArg some ev48.symm) _)
            refine lv_iinc (v := x2_12 + 1) (lv' := [(2, .int (x2_12 + 1)), (0, .ref (Z.1 4 0)), (1, .int a1), (3, .int x3_12)]) hx hb dX6_readNumber_58 hl (k := 2) rfl rfl (by decide) rfl (fun ls hl => ?_)
            refine lv_iinc (v := x3_12 + 1) (lv' := [(3, .int (x3_12 + 1)), (2, .int (x2_12 + 1)), (0, .ref (Z.1 4 0)), (1, .int a1)]) hx hb dX6_readNumber_61 hl (k := 3) rfl rfl (by decide) rfl (fun ls hl => ?_)
            refine lv_goto (tgt := 12) hx hb dX6_readNumber_64 (by decide) ?_
            have hl := lv_sub (l' := [(0, .ref (Z.1 4 0)), (1, .int a1), (2, .int (x2_12 + 1)), (3, .int (x3_12 + 1))]) hl [2, 3, 1, 0] rfl
            exact ih12 v48 (x2_12 + 1) (x3_12 + 1) _ _ _ hF hw hl
  refine lv_iconst (v := 0) hx hb dX6_readNumber_0 (by decide) ?_
  refine lv_istore_n (lv' := [(2, .int 0), (0, .ref (Z.1 4 0)), (1, .int a1)]) hx hb dX6_readNumber_1 rfl hl (by decide) rfl (fun ls hl => ?_)
  refine lv_aload_n hx hb dX6_readNumber_2 rfl (lv_at hl 1 rfl) ?_
  refine lv_iconst (v := 0) hx hb dX6_readNumber_3 (by decide) ?_
  refine km_put (ci := 6) (C := RX6) (T := TX6) (N := 7) (t := 4) (i := 0) hx hb hts fi_X6_readNumber_X6 tyX6 tyX6_ok nmX6 hown hK hw (by decide) (by decide) rfl rfl 6 (by decide) (hts (.fieldLink RX6 66 "WrongWord$Tape" "value" "I") ow_X6_readNumber_66) rfl (by decide +kernel) (Nat.le_of_ble_eq_true rfl) rfl dX6_readNumber_4 (fun H locs hw => ?_)
  obtain ⟨v49, ev49⟩ : ∃ z, z = up3 v 4 0 6 0 := ⟨_, rfl⟩
  rw [← ev49] at hw
  have hF := hF.trans (kb_some (congrArg some ev49.symm) _)
  refine lv_aload_n hx hb dX6_readNumber_7 rfl (lv_at hl 1 rfl) ?_
  refine km_get (ci := 6) (C := RX6) (T := TX6) (N := 7) (t := 4) (i := 0) hx hb hts fi_X6_readNumber_X6 hown hK hw (by decide) (by decide) rfl rfl 5 (by decide) (hts (.fieldLink RX6 26 "WrongWord$Tape" "at" "I") ow_X6_readNumber_26) rfl dX6_readNumber_8 ?_
  refine lv_istore_n (lv' := [(3, .int (v49 4 0 5)), (2, .int 0), (0, .ref (Z.1 4 0)), (1, .int a1)]) hx hb dX6_readNumber_11 rfl hl (by decide) rfl (fun ls hl => ?_)
  have hl := lv_sub (l' := [(0, .ref (Z.1 4 0)), (1, .int a1), (2, .int 0), (3, .int (v49 4 0 5))]) hl [2, 3, 1, 0] rfl
  exact loop12 2000 v49 0 (v49 4 0 5) _ _ _ hF hw hl
abbrev rmX6_readLaw : Room := { frames := 2, cells := 0, slots := 0, locals := 44 }
def g_X6_readLaw (v : Mm)  : Option (Int32 × Mm) := kb2 (g_X6_readSign v 113) (fun r2 v3 => if r2 = 0 then (some (0, v3)) else (kb2 (g_X6_readNumber v3 9) (fun r6 v7 => if r6 = 0 then (some (0, v7)) else (Option.bind (some (up3 v7 10 1 5 (v7 4 0 6))) (fun v9 => kb2 (g_X6_readSign v9 44) (fun r11 v12 => if r11 = 0 then (some (0, v12)) else (kb2 (g_X6_readNumber v12 9) (fun r15 v16 => if r15 = 0 then (some (0, v16)) else (Option.bind (some (up3 v16 6 1 4 (v16 4 0 6))) (fun v18 => kb2 (g_X6_readSign v18 44) (fun r20 v21 => if r20 = 0 then (some (0, v21)) else (kb2 (g_X6_readNumber v21 6) (fun r24 v25 => if r24 = 0 then (some (0, v25)) else (Option.bind (some (up3 v25 6 1 5 (v25 4 0 6))) (fun v27 => kb2 (g_X6_readSign v27 59) (fun r29 v30 => some (r29, v30)))))))))))))))))
set_option maxHeartbeats 4000000 in
set_option maxRecDepth 100000 in
theorem d_X6_readLaw (l : Launch) (E : kq_T) (Z : km_Z) (v : Mm) (hs : g_X6_readLaw v ≠ none) : km_I l E Z cntX yX6_readLaw wsX6_readLaw rmX6_readLaw [.ref (Z.1 4 0)] v (fun r v1 => (g_X6_readLaw v = some (r, v1)) ∧ (r = 0 ∨ r = 1)) := by
  refine km_goZ (cc := cX6_readLaw) (maxL := 1) (post := fun r v1 => g_X6_readLaw v = some (r, v1)) (by decide) rfl (Nat.le_of_ble_eq_true rfl) rfl rfl rfl ?_
  intro p e s m below meth c A ls Q C hK hw hl hret
  obtain ⟨hx, hb, hml, hown, hts, -, -, -⟩ := C
  have hown : s.vm.findClass RX6 = some m.cls := hown
  have hl : lv_has ls 1 [(0, .ref (Z.1 4 0))] := hl
  have hF := g_X6_readLaw.eq_1 v 
  refine lv_aload_n hx hb dX6_readLaw_0 rfl (lv_at hl 0 rfl) ?_
  refine lv_bipush (v := 113) hx hb dX6_readLaw_1 (by decide) ?_
  have hs1 : g_X6_readSign v 113 ≠ none := fun q => hs (hF.trans (kb2_n q _))
  refine km_cI (As := [.int 113]) (rest := []) (n := 1) (q := (RX6, TX6, 7)) (ci := 6) (t := 4) (i := 0) ⟨hx, hb, hml, hown, hts⟩ (d_X6_readSign l E Z v 113 hs1) gX6_readLaw_X6_readSign rfl hV_X6_readSign ⟨Nat.le_of_ble_eq_true rfl, Nat.le_of_ble_eq_true rfl⟩ hK hw (by decide) (by decide) rfl rfl rfl hl.1 rfl (Nat.le_of_ble_eq_true rfl) dX6_readLaw_3 rfl rfl (fun r2 v3 H locs hp hw => ?_)
  obtain ⟨hp, hzr2⟩ := hp
  have hF := hF.trans (kb2_some hp _)
  refine lv_if_eq (tgt := 18) hx hb dX6_readLaw_6 (by decide) (fun c4 => ?_) (fun c4 => ?_)
  · skip
    have hF := hF.trans (if_pos c4)
    refine lv_iconst (v := 0) hx hb dX6_readLaw_18 (by decide) ?_
    exact hret _ _ _ _ _ _ hw dX6_readLaw_19 (Or.inl rfl) hF
  · skip
    have hF := hF.trans (if_neg c4)
    refine lv_aload_n hx hb dX6_readLaw_9 rfl (lv_at hl 0 rfl) ?_
    refine lv_bipush (v := 9) hx hb dX6_readLaw_10 (by decide) ?_
    have hs5 : g_X6_readNumber v3 9 ≠ none := fun q => hs (hF.trans (kb2_n q _))
    refine km_cI (As := [.int 9]) (rest := []) (n := 1) (q := (RX6, TX6, 7)) (ci := 6) (t := 4) (i := 0) ⟨hx, hb, hml, hown, hts⟩ (d_X6_readNumber l E Z v3 9 hs5) gX6_readLaw_X6_readNumber rfl hV_X6_readNumber ⟨Nat.le_of_ble_eq_true rfl, Nat.le_of_ble_eq_true rfl⟩ hK hw (by decide) (by decide) rfl rfl rfl hl.1 rfl (Nat.le_of_ble_eq_true rfl) dX6_readLaw_12 rfl rfl (fun r6 v7 H locs hp hw => ?_)
    obtain ⟨hp, hzr6⟩ := hp
    have hF := hF.trans (kb2_some hp _)
    refine lv_if_ne (tgt := 20) hx hb dX6_readLaw_15 (by decide) (fun c8 => ?_) (fun c8 => ?_)
    · skip
      have hF := hF.trans (if_neg c8)
      refine lv_aload_n hx hb dX6_readLaw_20 rfl (lv_at hl 0 rfl) ?_
      refine km_get (ci := 6) (C := RX6) (T := TX6) (N := 7) (t := 4) (i := 0) hx hb hts fi_X6_readLaw_X6 hown hK hw (by decide) (by decide) rfl rfl 1 (by decide) (hts (.fieldLink RX6 18 "WrongWord$Tape" "draft" "LWrongWord$Gate;") ow_X6_readLaw_18) rfl dX6_readLaw_21 ?_
      refine km_get (ci := 2) (C := RX2) (T := TX2) (N := 8) (t := 6) (i := 1) hx hb hts fi_X6_readLaw_X2 hown hK hw (by decide) (by decide) rfl rfl 3 (by decide) (hts (.fieldLink RX6 49 "WrongWord$Gate" "now" "LWrongWord$Moment;") ow_X6_readLaw_49) rfl dX6_readLaw_24 ?_
      refine lv_aload_n hx hb dX6_readLaw_27 rfl (lv_at hl 0 rfl) ?_
      refine km_get (ci := 6) (C := RX6) (T := TX6) (N := 7) (t := 4) (i := 0) hx hb hts fi_X6_readLaw_X6 hown hK hw (by decide) (by decide) rfl rfl 6 (by decide) (hts (.fieldLink RX6 66 "WrongWord$Tape" "value" "I") ow_X6_readLaw_66) rfl dX6_readLaw_28 ?_
      refine km_put (ci := 4) (C := RX4) (T := TX4) (N := 8) (t := 10) (i := 1) hx hb hts fi_X6_readLaw_X4 tyX4 tyX4_ok nmX4 hown hK hw (by decide) (by decide) rfl rfl 5 (by decide) (hts (.fieldLink RX6 69 "WrongWord$Moment" "start" "I") ow_X6_readLaw_69) rfl (by decide +kernel) (Nat.le_of_ble_eq_true rfl) rfl dX6_readLaw_31 (fun H locs hw => ?_)
      obtain ⟨v9, ev9⟩ : ∃ z, z = up3 v7 10 1 5 (v7 4 0 6) := ⟨_, rfl⟩
      rw [← ev9] at hw
      have hF := hF.trans (kb_some (congrArg some ev9.symm) _)
      refine lv_aload_n hx hb dX6_readLaw_34 rfl (lv_at hl 0 rfl) ?_
      refine lv_bipush (v := 44) hx hb dX6_readLaw_35 (by decide) ?_
      have hs10 : g_X6_readSign v9 44 ≠ none := fun q => hs (hF.trans (kb2_n q _))
      refine km_cI (As := [.int 44]) (rest := []) (n := 1) (q := (RX6, TX6, 7)) (ci := 6) (t := 4) (i := 0) ⟨hx, hb, hml, hown, hts⟩ (d_X6_readSign l E Z v9 44 hs10) gX6_readLaw_X6_readSign rfl hV_X6_readSign ⟨Nat.le_of_ble_eq_true rfl, Nat.le_of_ble_eq_true rfl⟩ hK hw (by decide) (by decide) rfl rfl rfl hl.1 rfl (Nat.le_of_ble_eq_true rfl) dX6_readLaw_37 rfl rfl (fun r11 v12 H locs hp hw => ?_)
      obtain ⟨hp, hzr11⟩ := hp
      have hF := hF.trans (kb2_some hp _)
      refine lv_if_eq (tgt := 52) hx hb dX6_readLaw_40 (by decide) (fun c13 => ?_) (fun c13 => ?_)
      · skip
        have hF := hF.trans (if_pos c13)
        refine lv_iconst (v := 0) hx hb dX6_readLaw_52 (by decide) ?_
        exact hret _ _ _ _ _ _ hw dX6_readLaw_53 (Or.inl rfl) hF
      · skip
        have hF := hF.trans (if_neg c13)
        refine lv_aload_n hx hb dX6_readLaw_43 rfl (lv_at hl 0 rfl) ?_
        refine lv_bipush (v := 9) hx hb dX6_readLaw_44 (by decide) ?_
        have hs14 : g_X6_readNumber v12 9 ≠ none := fun q => hs (hF.trans (kb2_n q _))
        refine km_cI (As := [.int 9]) (rest := []) (n := 1) (q := (RX6, TX6, 7)) (ci := 6) (t := 4) (i := 0) ⟨hx, hb, hml, hown, hts⟩ (d_X6_readNumber l E Z v12 9 hs14) gX6_readLaw_X6_readNumber rfl hV_X6_readNumber ⟨Nat.le_of_ble_eq_true rfl, Nat.le_of_ble_eq_true rfl⟩ hK hw (by decide) (by decide) rfl rfl rfl hl.1 rfl (Nat.le_of_ble_eq_true rfl) dX6_readLaw_46 rfl rfl (fun r15 v16 H locs hp hw => ?_)
        obtain ⟨hp, hzr15⟩ := hp
        have hF := hF.trans (kb2_some hp _)
        refine lv_if_ne (tgt := 54) hx hb dX6_readLaw_49 (by decide) (fun c17 => ?_) (fun c17 => ?_)
        · skip
          have hF := hF.trans (if_neg c17)
          refine lv_aload_n hx hb dX6_readLaw_54 rfl (lv_at hl 0 rfl) ?_
          refine km_get (ci := 6) (C := RX6) (T := TX6) (N := 7) (t := 4) (i := 0) hx hb hts fi_X6_readLaw_X6 hown hK hw (by decide) (by decide) rfl rfl 1 (by decide) (hts (.fieldLink RX6 18 "WrongWord$Tape" "draft" "LWrongWord$Gate;") ow_X6_readLaw_18) rfl dX6_readLaw_55 ?_
          refine lv_aload_n hx hb dX6_readLaw_58 rfl (lv_at hl 0 rfl) ?_
          refine km_get (ci := 6) (C := RX6) (T := TX6) (N := 7) (t := 4) (i := 0) hx hb hts fi_X6_readLaw_X6 hown hK hw (by decide) (by decide) rfl rfl 6 (by decide) (hts (.fieldLink RX6 66 "WrongWord$Tape" "value" "I") ow_X6_readLaw_66) rfl dX6_readLaw_59 ?_
          refine km_put (ci := 2) (C := RX2) (T := TX2) (N := 8) (t := 6) (i := 1) hx hb hts fi_X6_readLaw_X2 tyX2 tyX2_ok nmX2 hown hK hw (by decide) (by decide) rfl rfl 4 (by decide) (hts (.fieldLink RX6 72 "WrongWord$Gate" "step" "I") ow_X6_readLaw_72) rfl (by decide +kernel) (Nat.le_of_ble_eq_true rfl) rfl dX6_readLaw_62 (fun H locs hw => ?_)
          obtain ⟨v18, ev18⟩ : ∃ z, z = up3 v16 6 1 4 (v16 4 0 6) := ⟨_, rfl⟩
          rw [← ev18] at hw
          have hF := hF.trans (kb_some (congrArg some ev18.symm) _)
          refine lv_aload_n hx hb dX6_readLaw_65 rfl (lv_at hl 0 rfl) ?_
          refine lv_bipush (v := 44) hx hb dX6_readLaw_66 (by decide) ?_
          have hs19 : g_X6_readSign v18 44 ≠ none := fun q => hs (hF.trans (kb2_n q _))
          refine km_cI (As := [.int 44]) (rest := []) (n := 1) (q := (RX6, TX6, 7)) (ci := 6) (t := 4) (i := 0) ⟨hx, hb, hml, hown, hts⟩ (d_X6_readSign l E Z v18 44 hs19) gX6_readLaw_X6_readSign rfl hV_X6_readSign ⟨Nat.le_of_ble_eq_true rfl, Nat.le_of_ble_eq_true rfl⟩ hK hw (by decide) (by decide) rfl rfl rfl hl.1 rfl (Nat.le_of_ble_eq_true rfl) dX6_readLaw_68 rfl rfl (fun r20 v21 H locs hp hw => ?_)
          obtain ⟨hp, hzr20⟩ := hp
          have hF := hF.trans (kb2_some hp _)
          refine lv_if_eq (tgt := 83) hx hb dX6_readLaw_71 (by decide) (fun c22 => ?_) (fun c22 => ?_)
          · skip
            have hF := hF.trans (if_pos c22)
            refine lv_iconst (v := 0) hx hb dX6_readLaw_83 (by decide) ?_
            exact hret _ _ _ _ _ _ hw dX6_readLaw_84 (Or.inl rfl) hF
          · skip
            have hF := hF.trans (if_neg c22)
            refine lv_aload_n hx hb dX6_readLaw_74 rfl (lv_at hl 0 rfl) ?_
            refine lv_bipush (v := 6) hx hb dX6_readLaw_75 (by decide) ?_
            have hs23 : g_X6_readNumber v21 6 ≠ none := fun q => hs (hF.trans (kb2_n q _))
            refine km_cI (As := [.int 6]) (rest := []) (n := 1) (q := (RX6, TX6, 7)) (ci := 6) (t := 4) (i := 0) ⟨hx, hb, hml, hown, hts⟩ (d_X6_readNumber l E Z v21 6 hs23) gX6_readLaw_X6_readNumber rfl hV_X6_readNumber ⟨Nat.le_of_ble_eq_true rfl, Nat.le_of_ble_eq_true rfl⟩ hK hw (by decide) (by decide) rfl rfl rfl hl.1 rfl (Nat.le_of_ble_eq_true rfl) dX6_readLaw_77 rfl rfl (fun r24 v25 H locs hp hw => ?_)
            obtain ⟨hp, hzr24⟩ := hp
            have hF := hF.trans (kb2_some hp _)
            refine lv_if_ne (tgt := 85) hx hb dX6_readLaw_80 (by decide) (fun c26 => ?_) (fun c26 => ?_)
            · skip
              have hF := hF.trans (if_neg c26)
              refine lv_aload_n hx hb dX6_readLaw_85 rfl (lv_at hl 0 rfl) ?_
              refine km_get (ci := 6) (C := RX6) (T := TX6) (N := 7) (t := 4) (i := 0) hx hb hts fi_X6_readLaw_X6 hown hK hw (by decide) (by decide) rfl rfl 1 (by decide) (hts (.fieldLink RX6 18 "WrongWord$Tape" "draft" "LWrongWord$Gate;") ow_X6_readLaw_18) rfl dX6_readLaw_86 ?_
              refine lv_aload_n hx hb dX6_readLaw_89 rfl (lv_at hl 0 rfl) ?_
              refine km_get (ci := 6) (C := RX6) (T := TX6) (N := 7) (t := 4) (i := 0) hx hb hts fi_X6_readLaw_X6 hown hK hw (by decide) (by decide) rfl rfl 6 (by decide) (hts (.fieldLink RX6 66 "WrongWord$Tape" "value" "I") ow_X6_readLaw_66) rfl dX6_readLaw_90 ?_
              refine km_put (ci := 2) (C := RX2) (T := TX2) (N := 8) (t := 6) (i := 1) hx hb hts fi_X6_readLaw_X2 tyX2 tyX2_ok nmX2 hown hK hw (by decide) (by decide) rfl rfl 5 (by decide) (hts (.fieldLink RX6 75 "WrongWord$Gate" "shrove" "I") ow_X6_readLaw_75) rfl (by decide +kernel) (Nat.le_of_ble_eq_true rfl) rfl dX6_readLaw_93 (fun H locs hw => ?_)
              obtain ⟨v27, ev27⟩ : ∃ z, z = up3 v25 6 1 5 (v25 4 0 6) := ⟨_, rfl⟩
              rw [← ev27] at hw
              have hF := hF.trans (kb_some (congrArg some ev27.symm) _)
              refine lv_aload_n hx hb dX6_readLaw_96 rfl (lv_at hl 0 rfl) ?_
              refine lv_bipush (v := 59) hx hb dX6_readLaw_97 (by decide) ?_
              have hs28 : g_X6_readSign v27 59 ≠ none := fun q => hs (hF.trans (kb2_n q _))
              refine km_cI (As := [.int 59]) (rest := []) (n := 1) (q := (RX6, TX6, 7)) (ci := 6) (t := 4) (i := 0) ⟨hx, hb, hml, hown, hts⟩ (d_X6_readSign l E Z v27 59 hs28) gX6_readLaw_X6_readSign rfl hV_X6_readSign ⟨Nat.le_of_ble_eq_true rfl, Nat.le_of_ble_eq_true rfl⟩ hK hw (by decide) (by decide) rfl rfl rfl hl.1 rfl (Nat.le_of_ble_eq_true rfl) dX6_readLaw_99 rfl rfl (fun r29 v30 H locs hp hw => ?_)
              obtain ⟨hp, hzr29⟩ := hp
              have hF := hF.trans (kb2_some hp _)
              exact hret _ _ _ _ _ _ hw dX6_readLaw_102 hzr29 hF
            · skip
              have hF := hF.trans (if_pos c26)
              refine lv_iconst (v := 0) hx hb dX6_readLaw_83 (by decide) ?_
              exact hret _ _ _ _ _ _ hw dX6_readLaw_84 (Or.inl rfl) hF
        · skip
          have hF := hF.trans (if_pos c17)
          refine lv_iconst (v := 0) hx hb dX6_readLaw_52 (by decide) ?_
          exact hret _ _ _ _ _ _ hw dX6_readLaw_53 (Or.inl rfl) hF
    · skip
      have hF := hF.trans (if_pos c8)
      refine lv_iconst (v := 0) hx hb dX6_readLaw_18 (by decide) ?_
      exact hret _ _ _ _ _ _ hw dX6_readLaw_19 (Or.inl rfl) hF
