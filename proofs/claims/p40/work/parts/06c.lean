abbrev rmX6_wasTold : Room := { frames := 1, cells := 0, slots := 0, locals := 24 }
def b_X6_wasTold_L2  (rec2 : Int32 → Option (Int32)) (v : Mm) (a1 : Int32) (x2_2 : Int32) : Option (Int32) := if a1 ≤ x2_2 then (some 0) else (Option.bind (g_X2_distance v 1 a1 x2_2) (fun r3 => if r3 = 0 then (some 1) else (rec2 (x2_2 + 1))))
def g_X6_wasTold_L2  (v : Mm) (a1 : Int32) : Nat → Int32 → Option (Int32)
  | 0 => fun _ => none
  | n + 1 => b_X6_wasTold_L2  (g_X6_wasTold_L2  v a1 n) v a1
def g_X6_wasTold (v : Mm) (a1 : Int32) : Option (Int32) := g_X6_wasTold_L2  v a1 2000 0
set_option maxHeartbeats 4000000 in
set_option maxRecDepth 100000 in
theorem d_X6_wasTold (l : Launch) (E : kq_T) (Z : km_Z) (v : Mm) (a1 : Int32) (hs : g_X6_wasTold v a1 ≠ none) : km_I l E Z cntX yX6_wasTold wsX6_wasTold rmX6_wasTold [.ref (Z.1 4 0), .int a1] v (fun r v1 => (g_X6_wasTold v a1 = some r ∧ v = v1) ∧ (r = 0 ∨ r = 1)) := by
  refine km_goZ (cc := cX6_wasTold) (maxL := 3) (post := fun r v1 => g_X6_wasTold v a1 = some r ∧ v = v1) (by decide) rfl (Nat.le_of_ble_eq_true rfl) rfl rfl rfl ?_
  intro p e s m below meth c A ls Q C hK hw hl hret
  obtain ⟨hx, hb, hml, hown, hts, -, -, -⟩ := C
  have hown : s.vm.findClass RX6 = some m.cls := hown
  have hl : lv_has ls 3 [(0, .ref (Z.1 4 0)), (1, .int a1)] := hl
  have hF := g_X6_wasTold.eq_1 v a1
  have loop2 : ∀ (n2 : Nat) (x2_2 : Int32) (H : Heap) (locs : List Loc) (ls : Array Slot), g_X6_wasTold v a1 = g_X6_wasTold_L2  v a1 n2 x2_2 → km_w E A s.heap [] Z cntX v H locs → lv_has ls 3 [(0, .ref (Z.1 4 0)), (1, .int a1), (2, .int x2_2)] → W p l e rmX6_wasTold s m [.ref (Z.1 4 0), .int a1].toArray below meth c H locs 0 0 Q (F0 m 2 ls []) := by
    intro n2
    induction n2 with
    | zero => intro x2_2 H locs ls hF hw hl; exact absurd (show g_X6_wasTold v a1 = none from hF) hs
    | succ n2 ih2 =>
      intro x2_2 H locs ls hF hw hl
      have hF := hF.trans (b_X6_wasTold_L2.eq_1  (g_X6_wasTold_L2  v a1 n2) v a1 x2_2)
      refine lv_iload_n hx hb dX6_wasTold_2 rfl (lv_at hl 2 rfl) ?_
      refine lv_iload_n hx hb dX6_wasTold_3 rfl (lv_at hl 1 rfl) ?_
      refine lv_icmp_ge (tgt := 27) hx hb dX6_wasTold_4 (by decide) (fun c1 => ?_) (fun c1 => ?_)
      · skip
        have hF := hF.trans (if_pos c1)
        refine lv_iconst (v := 0) hx hb dX6_wasTold_27 (by decide) ?_
        exact hret _ _ _ _ _ _ hw dX6_wasTold_28 (Or.inl rfl) ⟨hF, rfl⟩
      · skip
        have hF := hF.trans (if_neg c1)
        refine lv_aload_n hx hb dX6_wasTold_7 rfl (lv_at hl 0 rfl) ?_
        refine km_get (ci := 6) (C := RX6) (T := TX6) (N := 7) (t := 4) (i := 0) hx hb hts fi_X6_wasTold_X6 hown hK hw (by decide) (by decide) rfl rfl 1 (by decide) (hts (.fieldLink RX6 18 "WrongWord$Tape" "draft" "LWrongWord$Gate;") ow_X6_wasTold_18) rfl dX6_wasTold_8 ?_
        refine lv_iload_n hx hb dX6_wasTold_11 rfl (lv_at hl 1 rfl) ?_
        refine lv_iload_n hx hb dX6_wasTold_12 rfl (lv_at hl 2 rfl) ?_
        have hs2 : g_X2_distance v 1 a1 x2_2 ≠ none := fun q => hs (hF.trans (kb_n q _))
        refine km_cI (As := [.int a1, .int x2_2]) (rest := []) (n := 2) (q := (RX2, TX2, 8)) (ci := 2) (t := 6) (i := 1) ⟨hx, hb, hml, hown, hts⟩ (d_X2_distance l E Z v 1 (by decide) a1 x2_2 hs2) gX6_wasTold_X2_distance rfl hV_X2_distance ⟨Nat.le_of_ble_eq_true rfl, Nat.le_of_ble_eq_true rfl⟩ hK hw (by decide) (by decide) rfl rfl rfl hl.1 rfl (Nat.le_of_ble_eq_true rfl) dX6_wasTold_13 rfl rfl (fun r3 v4 H locs hp hw => ?_)
        obtain ⟨hp, rfl⟩ := hp
        have hF := hF.trans (kb_some hp _)
        refine lv_if_ne (tgt := 21) hx hb dX6_wasTold_16 (by decide) (fun c5 => ?_) (fun c5 => ?_)
        · skip
          have hF := hF.trans (if_neg c5)
          refine lv_iinc (v := x2_2 + 1) (lv' := [(2, .int (x2_2 + 1)), (0, .ref (Z.1 4 0)), (1, .int a1)]) hx hb dX6_wasTold_21 hl (k := 2) rfl rfl (by decide) rfl (fun ls hl => ?_)
          refine lv_goto (tgt := 2) hx hb dX6_wasTold_24 (by decide) ?_
          have hl := lv_sub (l' := [(0, .ref (Z.1 4 0)), (1, .int a1), (2, .int (x2_2 + 1))]) hl [1, 2, 0] rfl
          exact ih2 (x2_2 + 1) _ _ _ hF hw hl
        · skip
          have hF := hF.trans (if_pos c5)
          refine lv_iconst (v := 1) hx hb dX6_wasTold_19 (by decide) ?_
          exact hret _ _ _ _ _ _ hw dX6_wasTold_20 (Or.inr rfl) ⟨hF, rfl⟩
  refine lv_iconst (v := 0) hx hb dX6_wasTold_0 (by decide) ?_
  refine lv_istore_n (lv' := [(2, .int 0), (0, .ref (Z.1 4 0)), (1, .int a1)]) hx hb dX6_wasTold_1 rfl hl (by decide) rfl (fun ls hl => ?_)
  have hl := lv_sub (l' := [(0, .ref (Z.1 4 0)), (1, .int a1), (2, .int 0)]) hl [1, 2, 0] rfl
  exact loop2 2000 0 _ _ _ hF hw hl
abbrev rmX6_readWord : Room := { frames := 2, cells := 0, slots := 0, locals := 46 }
def b_X6_readWord_L40  (rec40 : Mm → Int32 → Option (Int32 × Mm))  (w40 : Mm) (x1_40 : Int32) : Option (Int32 × Mm) := if 3 ≤ x1_40 then (Option.bind (some (up3 w40 6 1 6 ((w40 6 1 6) + 1))) (fun v10 => kb2 (g_X6_readSign v10 59) (fun r12 v13 => some (r12, v13)))) else (Option.bind (g_X6_here w40) (fun r15 => if r15 - 97 < 0 then (kb2 (g_X6_faulty w40 1) (fun r19 v20 => some (r19, v20))) else (if r15 - 97 ≤ 25 then (if ((w40 6 1 6) * 3) + x1_40 < 0 ∨ 18 ≤ Int32.toNatClampNeg (((w40 6 1 6) * 3) + x1_40) then none else (Option.bind (some (up3 w40 7 1 (Int32.toNatClampNeg (((w40 6 1 6) * 3) + x1_40)) (r15 - 97))) (fun v23 => if x1_40 = 2 then (Option.bind (g_X6_wasTold v23 (v23 6 1 6)) (fun r27 => if r27 = 0 then (Option.bind (some (up3 v23 4 0 5 ((v23 4 0 5) + 1))) (fun v30 => rec40 v30 (x1_40 + 1))) else (kb2 (g_X6_faulty v23 2) (fun r32 v33 => some (r32, v33))))) else (Option.bind (some (up3 v23 4 0 5 ((v23 4 0 5) + 1))) (fun v25 => rec40 v25 (x1_40 + 1)))))) else (kb2 (g_X6_faulty w40 1) (fun r35 v36 => some (r35, v36))))))
def g_X6_readWord_L40   : Nat → Mm → Int32 → Option (Int32 × Mm)
  | 0 => fun _ _ => none
  | n + 1 => b_X6_readWord_L40  (g_X6_readWord_L40   n) 
def g_X6_readWord (v : Mm)  : Option (Int32 × Mm) := Option.bind (g_X6_here v) (fun r2 => if r2 = 119 then (if v 6 1 6 < 6 then (kb2 (g_X6_readSign v 119) (fun r11 v12 => if r11 = 0 then (some (0, v12)) else (g_X6_readWord_L40   2000 v12 0))) else (kb2 (g_X6_faulty v 3) (fun r15 v16 => some (r15, v16)))) else (kb2 (g_X6_readSign v 119) (fun r6 v7 => if r6 = 0 then (some (0, v7)) else (g_X6_readWord_L40   2000 v7 0))))
set_option maxHeartbeats 4000000 in
set_option maxRecDepth 100000 in
theorem d_X6_readWord (l : Launch) (E : kq_T) (Z : km_Z) (v : Mm) (hs : g_X6_readWord v ≠ none) : km_I l E Z cntX yX6_readWord wsX6_readWord rmX6_readWord [.ref (Z.1 4 0)] v (fun r v1 => (g_X6_readWord v = some (r, v1)) ∧ (r = 0 ∨ r = 1)) := by
  refine km_goZ (cc := cX6_readWord) (maxL := 3) (post := fun r v1 => g_X6_readWord v = some (r, v1)) (by decide) rfl (Nat.le_of_ble_eq_true rfl) rfl rfl rfl ?_
  intro p e s m below meth c A ls Q C hK hw hl hret
  obtain ⟨hx, hb, hml, hown, hts, -, -, -⟩ := C
  have hown : s.vm.findClass RX6 = some m.cls := hown
  have hl : lv_has ls 3 [(0, .ref (Z.1 4 0))] := hl
  have hF := g_X6_readWord.eq_1 v 
  have loop40 : ∀ (n40 : Nat) (w40 : Mm) (x1_40 : Int32) (H : Heap) (locs : List Loc) (ls : Array Slot), g_X6_readWord v = g_X6_readWord_L40   n40 w40 x1_40 → km_w E A s.heap [] Z cntX w40 H locs → lv_has ls 3 [(0, .ref (Z.1 4 0)), (1, .int x1_40)] → W p l e rmX6_readWord s m [.ref (Z.1 4 0)].toArray below meth c H locs 0 0 Q (F0 m 40 ls []) := by
    intro n40
    induction n40 with
    | zero => intro w40 x1_40 H locs ls hF hw hl; exact absurd (show g_X6_readWord v = none from hF) hs
    | succ n40 ih40 =>
      intro w40 x1_40 H locs ls hF hw hl
      have hF := hF.trans (b_X6_readWord_L40.eq_1  (g_X6_readWord_L40   n40)  w40 x1_40)
      refine lv_iload_n hx hb dX6_readWord_40 rfl (lv_at hl 1 rfl) ?_
      refine lv_iconst (v := 3) hx hb dX6_readWord_41 (by decide) ?_
      refine lv_icmp_ge (tgt := 130) hx hb dX6_readWord_42 (by decide) (fun c1 => ?_) (fun c1 => ?_)
      · skip
        have hF := hF.trans (if_pos c1)
        refine lv_aload_n hx hb dX6_readWord_130 rfl (lv_at hl 0 rfl) ?_
        refine km_get (ci := 6) (C := RX6) (T := TX6) (N := 7) (t := 4) (i := 0) hx hb hts fi_X6_readWord_X6 hown hK hw (by decide) (by decide) rfl rfl 1 (by decide) (hts (.fieldLink RX6 18 "WrongWord$Tape" "draft" "LWrongWord$Gate;") ow_X6_readWord_18) rfl dX6_readWord_131 ?_
        refine lv_dup hx hb dX6_readWord_134 rfl ?_
        refine km_get (ci := 2) (C := RX2) (T := TX2) (N := 8) (t := 6) (i := 1) hx hb hts fi_X6_readWord_X2 hown hK hw (by decide) (by decide) rfl rfl 6 (by decide) (hts (.fieldLink RX6 29 "WrongWord$Gate" "words" "I") ow_X6_readWord_29) rfl dX6_readWord_135 ?_
        refine lv_iconst (v := 1) hx hb dX6_readWord_138 (by decide) ?_
        refine lv_iadd hx hb dX6_readWord_139 ?_
        refine km_put (ci := 2) (C := RX2) (T := TX2) (N := 8) (t := 6) (i := 1) hx hb hts fi_X6_readWord_X2 tyX2 tyX2_ok nmX2 hown hK hw (by decide) (by decide) rfl rfl 6 (by decide) (hts (.fieldLink RX6 29 "WrongWord$Gate" "words" "I") ow_X6_readWord_29) rfl (by decide +kernel) (Nat.le_of_ble_eq_true rfl) rfl dX6_readWord_140 (fun H locs hw => ?_)
        obtain ⟨v2, ev2⟩ : ∃ z, z = up3 w40 6 1 6 ((w40 6 1 6) + 1) := ⟨_, rfl⟩
        rw [← ev2] at hw
        have hF := hF.trans (kb_some (congrArg some ev2.symm) _)
        refine lv_aload_n hx hb dX6_readWord_143 rfl (lv_at hl 0 rfl) ?_
        refine lv_bipush (v := 59) hx hb dX6_readWord_144 (by decide) ?_
        have hs3 : g_X6_readSign v2 59 ≠ none := fun q => hs (hF.trans (kb2_n q _))
        refine km_cI (As := [.int 59]) (rest := []) (n := 1) (q := (RX6, TX6, 7)) (ci := 6) (t := 4) (i := 0) ⟨hx, hb, hml, hown, hts⟩ (d_X6_readSign l E Z v2 59 hs3) gX6_readWord_X6_readSign rfl hV_X6_readSign ⟨Nat.le_of_ble_eq_true rfl, Nat.le_of_ble_eq_true rfl⟩ hK hw (by decide) (by decide) rfl rfl rfl hl.1 rfl (Nat.le_of_ble_eq_true rfl) dX6_readWord_146 rfl rfl (fun r4 v5 H locs hp hw => ?_)
        obtain ⟨hp, hzr4⟩ := hp
        have hF := hF.trans (kb2_some hp _)
        exact hret _ _ _ _ _ _ hw dX6_readWord_149 hzr4 hF
      · skip
        have hF := hF.trans (if_neg c1)
        refine lv_aload_n hx hb dX6_readWord_45 rfl (lv_at hl 0 rfl) ?_
        have hs6 : g_X6_here w40 ≠ none := fun q => hs (hF.trans (kb_n q _))
        refine km_cI (As := []) (rest := []) (n := 0) (q := (RX6, TX6, 7)) (ci := 6) (t := 4) (i := 0) ⟨hx, hb, hml, hown, hts⟩ (d_X6_here l E Z w40  hs6) gX6_readWord_X6_here rfl hV_X6_here ⟨Nat.le_of_ble_eq_true rfl, Nat.le_of_ble_eq_true rfl⟩ hK hw (by decide) (by decide) rfl rfl rfl hl.1 rfl (Nat.le_of_ble_eq_true rfl) dX6_readWord_46 rfl rfl (fun r7 v8 H locs hp hw => ?_)
        obtain ⟨hp, rfl⟩ := hp
        have hF := hF.trans (kb_some hp _)
        refine lv_bipush (v := 97) hx hb dX6_readWord_49 (by decide) ?_
        refine lv_isub hx hb dX6_readWord_51 ?_
        refine lv_istore_n (lv' := [(2, .int (r7 - 97)), (0, .ref (Z.1 4 0)), (1, .int x1_40)]) hx hb dX6_readWord_52 rfl hl (by decide) rfl (fun ls hl => ?_)
        refine lv_iload_n hx hb dX6_readWord_53 rfl (lv_at hl 0 rfl) ?_
        refine lv_if_lt (tgt := 63) hx hb dX6_readWord_54 (by decide) (fun c9 => ?_) (fun c9 => ?_)
        · skip
          have hF := hF.trans (if_pos c9)
          refine lv_aload_n hx hb dX6_readWord_63 rfl (lv_at hl 1 rfl) ?_
          refine lv_iconst (v := 1) hx hb dX6_readWord_64 (by decide) ?_
          have hs10 : g_X6_faulty w40 1 ≠ none := fun q => hs (hF.trans (kb2_n q _))
          refine km_cI (As := [.int 1]) (rest := []) (n := 1) (q := (RX6, TX6, 7)) (ci := 6) (t := 4) (i := 0) ⟨hx, hb, hml, hown, hts⟩ (d_X6_faulty l E Z w40 1 hs10) gX6_readWord_X6_faulty rfl hV_X6_faulty ⟨Nat.le_of_ble_eq_true rfl, Nat.le_of_ble_eq_true rfl⟩ hK hw (by decide) (by decide) rfl rfl rfl hl.1 rfl (Nat.le_of_ble_eq_true rfl) dX6_readWord_65 rfl rfl (fun r11 v12 H locs hp hw => ?_)
          obtain ⟨hp, hzr11⟩ := hp
          have hF := hF.trans (kb2_some hp _)
          exact hret _ _ _ _ _ _ hw dX6_readWord_68 hzr11 hF
        · skip
          have hF := hF.trans (if_neg c9)
          refine lv_iload_n hx hb dX6_readWord_57 rfl (lv_at hl 0 rfl) ?_
          refine lv_bipush (v := 25) hx hb dX6_readWord_58 (by decide) ?_
          refine lv_icmp_le (tgt := 69) hx hb dX6_readWord_60 (by decide) (fun c13 => ?_) (fun c13 => ?_)
          · skip
            have hF := hF.trans (if_pos c13)
            refine lv_aload_n hx hb dX6_readWord_69 rfl (lv_at hl 1 rfl) ?_
            refine km_get (ci := 6) (C := RX6) (T := TX6) (N := 7) (t := 4) (i := 0) hx hb hts fi_X6_readWord_X6 hown hK hw (by decide) (by decide) rfl rfl 1 (by decide) (hts (.fieldLink RX6 18 "WrongWord$Tape" "draft" "LWrongWord$Gate;") ow_X6_readWord_18) rfl dX6_readWord_70 ?_
            refine km_get (ci := 2) (C := RX2) (T := TX2) (N := 8) (t := 6) (i := 1) hx hb hts fi_X6_readWord_X2 hown hK hw (by decide) (by decide) rfl rfl 0 (by decide) (hts (.fieldLink RX6 81 "WrongWord$Gate" "letters" "[I") ow_X6_readWord_81) rfl dX6_readWord_73 ?_
            refine lv_aload_n hx hb dX6_readWord_76 rfl (lv_at hl 1 rfl) ?_
            refine km_get (ci := 6) (C := RX6) (T := TX6) (N := 7) (t := 4) (i := 0) hx hb hts fi_X6_readWord_X6 hown hK hw (by decide) (by decide) rfl rfl 1 (by decide) (hts (.fieldLink RX6 18 "WrongWord$Tape" "draft" "LWrongWord$Gate;") ow_X6_readWord_18) rfl dX6_readWord_77 ?_
            refine km_get (ci := 2) (C := RX2) (T := TX2) (N := 8) (t := 6) (i := 1) hx hb hts fi_X6_readWord_X2 hown hK hw (by decide) (by decide) rfl rfl 6 (by decide) (hts (.fieldLink RX6 29 "WrongWord$Gate" "words" "I") ow_X6_readWord_29) rfl dX6_readWord_80 ?_
            refine lv_iconst (v := 3) hx hb dX6_readWord_83 (by decide) ?_
            refine lv_imul hx hb dX6_readWord_84 ?_
            refine lv_iload_n hx hb dX6_readWord_85 rfl (lv_at hl 2 rfl) ?_
            refine lv_iadd hx hb dX6_readWord_86 ?_
            refine lv_iload_n hx hb dX6_readWord_87 rfl (lv_at hl 0 rfl) ?_
            have hb14 : ¬ (((w40 6 1 6) * 3) + x1_40 < 0 ∨ 18 ≤ Int32.toNatClampNeg (((w40 6 1 6) * 3) + x1_40)) := fun q => hs (hF.trans (if_pos q))
            have hF := hF.trans (if_neg hb14)
            refine km_iast (t := 7) (i := 1) (n := 18) hx hb hK hw (by decide) (by decide) (fun _ => rfl) hb14 dX6_readWord_88 (fun H locs hw => ?_)
            obtain ⟨v15, ev15⟩ : ∃ z, z = up3 w40 7 1 (Int32.toNatClampNeg (((w40 6 1 6) * 3) + x1_40)) (r7 - 97) := ⟨_, rfl⟩
            rw [← ev15] at hw
            have hF := hF.trans (kb_some (congrArg some ev15.symm) _)
            refine lv_iload_n hx hb dX6_readWord_89 rfl (lv_at hl 2 rfl) ?_
            refine lv_iconst (v := 2) hx hb dX6_readWord_90 (by decide) ?_
            refine lv_icmp_ne (tgt := 114) hx hb dX6_readWord_91 (by decide) (fun c16 => ?_) (fun c16 => ?_)
            · skip
              have hF := hF.trans (if_neg c16)
              refine lv_aload_n hx hb dX6_readWord_114 rfl (lv_at hl 1 rfl) ?_
              refine lv_dup hx hb dX6_readWord_115 rfl ?_
              refine km_get (ci := 6) (C := RX6) (T := TX6) (N := 7) (t := 4) (i := 0) hx hb hts fi_X6_readWord_X6 hown hK hw (by decide) (by decide) rfl rfl 5 (by decide) (hts (.fieldLink RX6 26 "WrongWord$Tape" "at" "I") ow_X6_readWord_26) rfl dX6_readWord_116 ?_
              refine lv_iconst (v := 1) hx hb dX6_readWord_119 (by decide) ?_
              refine lv_iadd hx hb dX6_readWord_120 ?_
              refine km_put (ci := 6) (C := RX6) (T := TX6) (N := 7) (t := 4) (i := 0) hx hb hts fi_X6_readWord_X6 tyX6 tyX6_ok nmX6 hown hK hw (by decide) (by decide) rfl rfl 5 (by decide) (hts (.fieldLink RX6 26 "WrongWord$Tape" "at" "I") ow_X6_readWord_26) rfl (by decide +kernel) (Nat.le_of_ble_eq_true rfl) rfl dX6_readWord_121 (fun H locs hw => ?_)
              obtain ⟨v17, ev17⟩ : ∃ z, z = up3 v15 4 0 5 ((v15 4 0 5) + 1) := ⟨_, rfl⟩
              rw [← ev17] at hw
              have hF := hF.trans (kb_some (congrArg some ev17.symm) _)
              refine lv_iinc (v := x1_40 + 1) (lv' := [(1, .int (x1_40 + 1)), (2, .int (r7 - 97)), (0, .ref (Z.1 4 0))]) hx hb dX6_readWord_124 hl (k := 2) rfl rfl (by decide) rfl (fun ls hl => ?_)
              refine lv_goto (tgt := 40) hx hb dX6_readWord_127 (by decide) ?_
              have hl := lv_sub (l' := [(0, .ref (Z.1 4 0)), (1, .int (x1_40 + 1))]) hl [2, 0] rfl
              exact ih40 v17 (x1_40 + 1) _ _ _ hF hw hl
            · skip
              have hF := hF.trans (if_pos c16)
              refine lv_aload_n hx hb dX6_readWord_94 rfl (lv_at hl 1 rfl) ?_
              refine lv_aload_n hx hb dX6_readWord_95 rfl (lv_at hl 1 rfl) ?_
              refine km_get (ci := 6) (C := RX6) (T := TX6) (N := 7) (t := 4) (i := 0) hx hb hts fi_X6_readWord_X6 hown hK hw (by decide) (by decide) rfl rfl 1 (by decide) (hts (.fieldLink RX6 18 "WrongWord$Tape" "draft" "LWrongWord$Gate;") ow_X6_readWord_18) rfl dX6_readWord_96 ?_
              refine km_get (ci := 2) (C := RX2) (T := TX2) (N := 8) (t := 6) (i := 1) hx hb hts fi_X6_readWord_X2 hown hK hw (by decide) (by decide) rfl rfl 6 (by decide) (hts (.fieldLink RX6 29 "WrongWord$Gate" "words" "I") ow_X6_readWord_29) rfl dX6_readWord_99 ?_
              have hs18 : g_X6_wasTold v15 (v15 6 1 6) ≠ none := fun q => hs (hF.trans (kb_n q _))
              refine km_cI (As := [.int (v15 6 1 6)]) (rest := []) (n := 1) (q := (RX6, TX6, 7)) (ci := 6) (t := 4) (i := 0) ⟨hx, hb, hml, hown, hts⟩ (d_X6_wasTold l E Z v15 (v15 6 1 6) hs18) gX6_readWord_X6_wasTold rfl hV_X6_wasTold ⟨Nat.le_of_ble_eq_true rfl, Nat.le_of_ble_eq_true rfl⟩ hK hw (by decide) (by decide) rfl rfl rfl hl.1 rfl (Nat.le_of_ble_eq_true rfl) dX6_readWord_102 rfl rfl (fun r19 v20 H locs hp hw => ?_)
              obtain ⟨hp, hzr19⟩ := hp
              obtain ⟨hp, rfl⟩ := hp
              have hF := hF.trans (kb_some hp _)
              refine lv_if_eq (tgt := 114) hx hb dX6_readWord_105 (by decide) (fun c21 => ?_) (fun c21 => ?_)
              · skip
                have hF := hF.trans (if_pos c21)
                refine lv_aload_n hx hb dX6_readWord_114 rfl (lv_at hl 1 rfl) ?_
                refine lv_dup hx hb dX6_readWord_115 rfl ?_
                refine km_get (ci := 6) (C := RX6) (T := TX6) (N := 7) (t := 4) (i := 0) hx hb hts fi_X6_readWord_X6 hown hK hw (by decide) (by decide) rfl rfl 5 (by decide) (hts (.fieldLink RX6 26 "WrongWord$Tape" "at" "I") ow_X6_readWord_26) rfl dX6_readWord_116 ?_
                refine lv_iconst (v := 1) hx hb dX6_readWord_119 (by decide) ?_
                refine lv_iadd hx hb dX6_readWord_120 ?_
                refine km_put (ci := 6) (C := RX6) (T := TX6) (N := 7) (t := 4) (i := 0) hx hb hts fi_X6_readWord_X6 tyX6 tyX6_ok nmX6 hown hK hw (by decide) (by decide) rfl rfl 5 (by decide) (hts (.fieldLink RX6 26 "WrongWord$Tape" "at" "I") ow_X6_readWord_26) rfl (by decide +kernel) (Nat.le_of_ble_eq_true rfl) rfl dX6_readWord_121 (fun H locs hw => ?_)
                obtain ⟨v22, ev22⟩ : ∃ z, z = up3 v15 4 0 5 ((v15 4 0 5) + 1) := ⟨_, rfl⟩
                rw [← ev22] at hw
                have hF := hF.trans (kb_some (congrArg some ev22.symm) _)
                refine lv_iinc (v := x1_40 + 1) (lv' := [(1, .int (x1_40 + 1)), (2, .int (r7 - 97)), (0, .ref (Z.1 4 0))]) hx hb dX6_readWord_124 hl (k := 2) rfl rfl (by decide) rfl (fun ls hl => ?_)
                refine lv_goto (tgt := 40) hx hb dX6_readWord_127 (by decide) ?_
                have hl := lv_sub (l' := [(0, .ref (Z.1 4 0)), (1, .int (x1_40 + 1))]) hl [2, 0] rfl
                exact ih40 v22 (x1_40 + 1) _ _ _ hF hw hl
              · skip
                have hF := hF.trans (if_neg c21)
                refine lv_aload_n hx hb dX6_readWord_108 rfl (lv_at hl 1 rfl) ?_
                refine lv_iconst (v := 2) hx hb dX6_readWord_109 (by decide) ?_
                have hs23 : g_X6_faulty v15 2 ≠ none := fun q => hs (hF.trans (kb2_n q _))
                refine km_cI (As := [.int 2]) (rest := []) (n := 1) (q := (RX6, TX6, 7)) (ci := 6) (t := 4) (i := 0) ⟨hx, hb, hml, hown, hts⟩ (d_X6_faulty l E Z v15 2 hs23) gX6_readWord_X6_faulty rfl hV_X6_faulty ⟨Nat.le_of_ble_eq_true rfl, Nat.le_of_ble_eq_true rfl⟩ hK hw (by decide) (by decide) rfl rfl rfl hl.1 rfl (Nat.le_of_ble_eq_true rfl) dX6_readWord_110 rfl rfl (fun r24 v25 H locs hp hw => ?_)
                obtain ⟨hp, hzr24⟩ := hp
                have hF := hF.trans (kb2_some hp _)
                exact hret _ _ _ _ _ _ hw dX6_readWord_113 hzr24 hF
          · skip
            have hF := hF.trans (if_neg c13)
            refine lv_aload_n hx hb dX6_readWord_63 rfl (lv_at hl 1 rfl) ?_
            refine lv_iconst (v := 1) hx hb dX6_readWord_64 (by decide) ?_
            have hs26 : g_X6_faulty w40 1 ≠ none := fun q => hs (hF.trans (kb2_n q _))
            refine km_cI (As := [.int 1]) (rest := []) (n := 1) (q := (RX6, TX6, 7)) (ci := 6) (t := 4) (i := 0) ⟨hx, hb, hml, hown, hts⟩ (d_X6_faulty l E Z w40 1 hs26) gX6_readWord_X6_faulty rfl hV_X6_faulty ⟨Nat.le_of_ble_eq_true rfl, Nat.le_of_ble_eq_true rfl⟩ hK hw (by decide) (by decide) rfl rfl rfl hl.1 rfl (Nat.le_of_ble_eq_true rfl) dX6_readWord_65 rfl rfl (fun r27 v28 H locs hp hw => ?_)
            obtain ⟨hp, hzr27⟩ := hp
            have hF := hF.trans (kb2_some hp _)
            exact hret _ _ _ _ _ _ hw dX6_readWord_68 hzr27 hF
  refine lv_aload_n hx hb dX6_readWord_0 rfl (lv_at hl 0 rfl) ?_
  have hs29 : g_X6_here v ≠ none := fun q => hs (hF.trans (kb_n q _))
  refine km_cI (As := []) (rest := []) (n := 0) (q := (RX6, TX6, 7)) (ci := 6) (t := 4) (i := 0) ⟨hx, hb, hml, hown, hts⟩ (d_X6_here l E Z v  hs29) gX6_readWord_X6_here rfl hV_X6_here ⟨Nat.le_of_ble_eq_true rfl, Nat.le_of_ble_eq_true rfl⟩ hK hw (by decide) (by decide) rfl rfl rfl hl.1 rfl (Nat.le_of_ble_eq_true rfl) dX6_readWord_1 rfl rfl (fun r30 v31 H locs hp hw => ?_)
  obtain ⟨hp, rfl⟩ := hp
  have hF := hF.trans (kb_some hp _)
  refine lv_bipush (v := 119) hx hb dX6_readWord_4 (by decide) ?_
  refine lv_icmp_ne (tgt := 27) hx hb dX6_readWord_6 (by decide) (fun c32 => ?_) (fun c32 => ?_)
  · skip
    have hF := hF.trans (if_neg c32)
    refine lv_aload_n hx hb dX6_readWord_27 rfl (lv_at hl 0 rfl) ?_
    refine lv_bipush (v := 119) hx hb dX6_readWord_28 (by decide) ?_
    have hs33 : g_X6_readSign v 119 ≠ none := fun q => hs (hF.trans (kb2_n q _))
    refine km_cI (As := [.int 119]) (rest := []) (n := 1) (q := (RX6, TX6, 7)) (ci := 6) (t := 4) (i := 0) ⟨hx, hb, hml, hown, hts⟩ (d_X6_readSign l E Z v 119 hs33) gX6_readWord_X6_readSign rfl hV_X6_readSign ⟨Nat.le_of_ble_eq_true rfl, Nat.le_of_ble_eq_true rfl⟩ hK hw (by decide) (by decide) rfl rfl rfl hl.1 rfl (Nat.le_of_ble_eq_true rfl) dX6_readWord_30 rfl rfl (fun r34 v35 H locs hp hw => ?_)
    obtain ⟨hp, hzr34⟩ := hp
    have hF := hF.trans (kb2_some hp _)
    refine lv_if_ne (tgt := 38) hx hb dX6_readWord_33 (by decide) (fun c36 => ?_) (fun c36 => ?_)
    · skip
      have hF := hF.trans (if_neg c36)
      refine lv_iconst (v := 0) hx hb dX6_readWord_38 (by decide) ?_
      refine lv_istore_n (lv' := [(1, .int 0), (0, .ref (Z.1 4 0))]) hx hb dX6_readWord_39 rfl hl (by decide) rfl (fun ls hl => ?_)
      have hl := lv_sub (l' := [(0, .ref (Z.1 4 0)), (1, .int 0)]) hl [1, 0] rfl
      exact loop40 2000 v35 0 _ _ _ hF hw hl
    · skip
      have hF := hF.trans (if_pos c36)
      refine lv_iconst (v := 0) hx hb dX6_readWord_36 (by decide) ?_
      exact hret _ _ _ _ _ _ hw dX6_readWord_37 (Or.inl rfl) hF
  · skip
    have hF := hF.trans (if_pos c32)
    refine lv_aload_n hx hb dX6_readWord_9 rfl (lv_at hl 0 rfl) ?_
    refine km_get (ci := 6) (C := RX6) (T := TX6) (N := 7) (t := 4) (i := 0) hx hb hts fi_X6_readWord_X6 hown hK hw (by decide) (by decide) rfl rfl 1 (by decide) (hts (.fieldLink RX6 18 "WrongWord$Tape" "draft" "LWrongWord$Gate;") ow_X6_readWord_18) rfl dX6_readWord_10 ?_
    refine km_get (ci := 2) (C := RX2) (T := TX2) (N := 8) (t := 6) (i := 1) hx hb hts fi_X6_readWord_X2 hown hK hw (by decide) (by decide) rfl rfl 6 (by decide) (hts (.fieldLink RX6 29 "WrongWord$Gate" "words" "I") ow_X6_readWord_29) rfl dX6_readWord_13 ?_
    refine lv_bipush (v := 6) hx hb dX6_readWord_16 (by decide) ?_
    refine lv_icmp_lt (tgt := 27) hx hb dX6_readWord_18 (by decide) (fun c37 => ?_) (fun c37 => ?_)
    · skip
      have hF := hF.trans (if_pos c37)
      refine lv_aload_n hx hb dX6_readWord_27 rfl (lv_at hl 0 rfl) ?_
      refine lv_bipush (v := 119) hx hb dX6_readWord_28 (by decide) ?_
      have hs38 : g_X6_readSign v 119 ≠ none := fun q => hs (hF.trans (kb2_n q _))
      refine km_cI (As := [.int 119]) (rest := []) (n := 1) (q := (RX6, TX6, 7)) (ci := 6) (t := 4) (i := 0) ⟨hx, hb, hml, hown, hts⟩ (d_X6_readSign l E Z v 119 hs38) gX6_readWord_X6_readSign rfl hV_X6_readSign ⟨Nat.le_of_ble_eq_true rfl, Nat.le_of_ble_eq_true rfl⟩ hK hw (by decide) (by decide) rfl rfl rfl hl.1 rfl (Nat.le_of_ble_eq_true rfl) dX6_readWord_30 rfl rfl (fun r39 v40 H locs hp hw => ?_)
      obtain ⟨hp, hzr39⟩ := hp
      have hF := hF.trans (kb2_some hp _)
      refine lv_if_ne (tgt := 38) hx hb dX6_readWord_33 (by decide) (fun c41 => ?_) (fun c41 => ?_)
      · skip
        have hF := hF.trans (if_neg c41)
        refine lv_iconst (v := 0) hx hb dX6_readWord_38 (by decide) ?_
        refine lv_istore_n (lv' := [(1, .int 0), (0, .ref (Z.1 4 0))]) hx hb dX6_readWord_39 rfl hl (by decide) rfl (fun ls hl => ?_)
        have hl := lv_sub (l' := [(0, .ref (Z.1 4 0)), (1, .int 0)]) hl [1, 0] rfl
        exact loop40 2000 v40 0 _ _ _ hF hw hl
      · skip
        have hF := hF.trans (if_pos c41)
        refine lv_iconst (v := 0) hx hb dX6_readWord_36 (by decide) ?_
        exact hret _ _ _ _ _ _ hw dX6_readWord_37 (Or.inl rfl) hF
    · skip
      have hF := hF.trans (if_neg c37)
      refine lv_aload_n hx hb dX6_readWord_21 rfl (lv_at hl 0 rfl) ?_
      refine lv_iconst (v := 3) hx hb dX6_readWord_22 (by decide) ?_
      have hs42 : g_X6_faulty v 3 ≠ none := fun q => hs (hF.trans (kb2_n q _))
      refine km_cI (As := [.int 3]) (rest := []) (n := 1) (q := (RX6, TX6, 7)) (ci := 6) (t := 4) (i := 0) ⟨hx, hb, hml, hown, hts⟩ (d_X6_faulty l E Z v 3 hs42) gX6_readWord_X6_faulty rfl hV_X6_faulty ⟨Nat.le_of_ble_eq_true rfl, Nat.le_of_ble_eq_true rfl⟩ hK hw (by decide) (by decide) rfl rfl rfl hl.1 rfl (Nat.le_of_ble_eq_true rfl) dX6_readWord_23 rfl rfl (fun r43 v44 H locs hp hw => ?_)
      obtain ⟨hp, hzr43⟩ := hp
      have hF := hF.trans (kb2_some hp _)
      exact hret _ _ _ _ _ _ hw dX6_readWord_26 hzr43 hF
abbrev rmX6_kindOf : Room := { frames := 0, cells := 0, slots := 0, locals := 0 }
def g_X6_kindOf (v : Mm) (a0 : Int32) : Option (Int32) := if a0 = 100 then (some 4) else (if a0 = 101 then (some 3) else (if a0 = 103 then (some 5) else (if a0 = 107 then (some 1) else (if a0 = 115 then (some 2) else (some ((-1000000)))))))
set_option maxHeartbeats 4000000 in
set_option maxRecDepth 100000 in
theorem d_X6_kindOf (l : Launch) (E : kq_T) (Z : km_Z) (v : Mm) (a0 : Int32) (hs : g_X6_kindOf v a0 ≠ none) : km_I l E Z cntX yX6_kindOf wsX6_kindOf rmX6_kindOf [.int a0] v (fun r v1 => g_X6_kindOf v a0 = some r ∧ v = v1) := by
  refine km_goI (cc := cX6_kindOf) (maxL := 1) (by decide) rfl (Nat.le_of_ble_eq_true rfl) rfl rfl rfl ?_
  intro p e s m below meth c A ls Q C hK hw hl hret
  obtain ⟨hx, hb, hml, hown, hts, -, -, -⟩ := C
  have hown : s.vm.findClass RX6 = some m.cls := hown
  have hl : lv_has ls 1 [(0, .int a0)] := hl
  have hF := g_X6_kindOf.eq_1 v a0
  refine lv_iload_n hx hb dX6_kindOf_0 rfl (lv_at hl 0 rfl) ?_
  by_cases c1 : a0 = 100
  · skip
    have hF := hF.trans (if_pos c1)
    refine lv_lookup (tgt := 58) (off := 57) hx hb dX6_kindOf_1 (by decide) (by rw [c1]; rfl) (by decide) ?_
    refine lv_iconst (v := 4) hx hb dX6_kindOf_58 (by decide) ?_
    exact hret _ _ _ _ _ _ hw dX6_kindOf_59 ⟨hF, rfl⟩
  have hF := hF.trans (if_neg c1)
  by_cases c2 : a0 = 101
  · skip
    have hF := hF.trans (if_pos c2)
    refine lv_lookup (tgt := 56) (off := 55) hx hb dX6_kindOf_1 (by decide) (by rw [c2]; rfl) (by decide) ?_
    refine lv_iconst (v := 3) hx hb dX6_kindOf_56 (by decide) ?_
    exact hret _ _ _ _ _ _ hw dX6_kindOf_57 ⟨hF, rfl⟩
  have hF := hF.trans (if_neg c2)
  by_cases c3 : a0 = 103
  · skip
    have hF := hF.trans (if_pos c3)
    refine lv_lookup (tgt := 60) (off := 59) hx hb dX6_kindOf_1 (by decide) (by rw [c3]; rfl) (by decide) ?_
    refine lv_iconst (v := 5) hx hb dX6_kindOf_60 (by decide) ?_
    exact hret _ _ _ _ _ _ hw dX6_kindOf_61 ⟨hF, rfl⟩
  have hF := hF.trans (if_neg c3)
  by_cases c4 : a0 = 107
  · skip
    have hF := hF.trans (if_pos c4)
    refine lv_lookup (tgt := 52) (off := 51) hx hb dX6_kindOf_1 (by decide) (by rw [c4]; rfl) (by decide) ?_
    refine lv_iconst (v := 1) hx hb dX6_kindOf_52 (by decide) ?_
    exact hret _ _ _ _ _ _ hw dX6_kindOf_53 ⟨hF, rfl⟩
  have hF := hF.trans (if_neg c4)
  by_cases c5 : a0 = 115
  · skip
    have hF := hF.trans (if_pos c5)
    refine lv_lookup (tgt := 54) (off := 53) hx hb dX6_kindOf_1 (by decide) (by rw [c5]; rfl) (by decide) ?_
    refine lv_iconst (v := 2) hx hb dX6_kindOf_54 (by decide) ?_
    exact hret _ _ _ _ _ _ hw dX6_kindOf_55 ⟨hF, rfl⟩
  have hF := hF.trans (if_neg c5)
  have nc1 : ¬ Int32.toInt a0 = 100 := fun q => c1 (Int32.toInt_inj.mp (q.trans (by decide)))
  have nc2 : ¬ Int32.toInt a0 = 101 := fun q => c2 (Int32.toInt_inj.mp (q.trans (by decide)))
  have nc3 : ¬ Int32.toInt a0 = 103 := fun q => c3 (Int32.toInt_inj.mp (q.trans (by decide)))
  have nc4 : ¬ Int32.toInt a0 = 107 := fun q => c4 (Int32.toInt_inj.mp (q.trans (by decide)))
  have nc5 : ¬ Int32.toInt a0 = 115 := fun q => c5 (Int32.toInt_inj.mp (q.trans (by decide)))
  refine lv_lookup (tgt := 62) (off := 61) hx hb dX6_kindOf_1 (by decide) (by simp [Op.lookupswitch.offset, (Ne.symm nc1), (Ne.symm nc2), (Ne.symm nc3), (Ne.symm nc4), (Ne.symm nc5)]) (by decide) ?_
  refine lv_ldc (v := (-1000000)) hx hb hown (hts (.constant RX6 95 (-1000000)) ow_X6_kindOf_95) dX6_kindOf_62 ?_
  exact hret _ _ _ _ _ _ hw dX6_kindOf_64 ⟨hF, rfl⟩
abbrev rmX6_readGuard : Room := { frames := 2, cells := 0, slots := 0, locals := 44 }
def g_X6_readGuard (v : Mm)  : Option (Int32 × Mm) := Option.bind (g_X6_here v) (fun r2 => Option.bind (g_X6_kindOf v r2) (fun r5 => if r5 = (-1000000) then (kb2 (g_X6_faulty v 1) (fun r26 v27 => some (r26, v27))) else (if v 6 1 7 < 4 then (Option.bind (some (up3 v 4 0 5 ((v 4 0 5) + 1))) (fun v9 => kb2 (g_X6_readNumber v9 9) (fun r11 v12 => if r11 = 0 then (some (0, v12)) else (if v12 6 1 7 < 0 ∨ 4 ≤ Int32.toNatClampNeg (v12 6 1 7) then none else (Option.bind (some (up3 v12 8 1 (Int32.toNatClampNeg (v12 6 1 7)) r5)) (fun v15 => if v15 6 1 7 < 0 ∨ 4 ≤ Int32.toNatClampNeg (v15 6 1 7) then none else (Option.bind (some (up3 v15 9 1 (Int32.toNatClampNeg (v15 6 1 7)) (v15 4 0 6))) (fun v17 => Option.bind (some (up3 v17 6 1 7 ((v17 6 1 7) + 1))) (fun v18 => kb2 (g_X6_readSign v18 59) (fun r20 v21 => some (r20, v21))))))))))) else (kb2 (g_X6_faulty v 3) (fun r23 v24 => some (r23, v24))))))
set_option maxHeartbeats 4000000 in
set_option maxRecDepth 100000 in
theorem d_X6_readGuard (l : Launch) (E : kq_T) (Z : km_Z) (v : Mm) (hs : g_X6_readGuard v ≠ none) : km_I l E Z cntX yX6_readGuard wsX6_readGuard rmX6_readGuard [.ref (Z.1 4 0)] v (fun r v1 => (g_X6_readGuard v = some (r, v1)) ∧ (r = 0 ∨ r = 1)) := by
  refine km_goZ (cc := cX6_readGuard) (maxL := 2) (post := fun r v1 => g_X6_readGuard v = some (r, v1)) (by decide) rfl (Nat.le_of_ble_eq_true rfl) rfl rfl rfl ?_
  intro p e s m below meth c A ls Q C hK hw hl hret
  obtain ⟨hx, hb, hml, hown, hts, -, -, -⟩ := C
  have hown : s.vm.findClass RX6 = some m.cls := hown
  have hl : lv_has ls 2 [(0, .ref (Z.1 4 0))] := hl
  have hF := g_X6_readGuard.eq_1 v 
  refine lv_aload_n hx hb dX6_readGuard_0 rfl (lv_at hl 0 rfl) ?_
  have hs1 : g_X6_here v ≠ none := fun q => hs (hF.trans (kb_n q _))
  refine km_cI (As := []) (rest := []) (n := 0) (q := (RX6, TX6, 7)) (ci := 6) (t := 4) (i := 0) ⟨hx, hb, hml, hown, hts⟩ (d_X6_here l E Z v  hs1) gX6_readGuard_X6_here rfl hV_X6_here ⟨Nat.le_of_ble_eq_true rfl, Nat.le_of_ble_eq_true rfl⟩ hK hw (by decide) (by decide) rfl rfl rfl hl.1 rfl (Nat.le_of_ble_eq_true rfl) dX6_readGuard_1 rfl rfl (fun r2 v3 H locs hp hw => ?_)
  obtain ⟨hp, rfl⟩ := hp
  have hF := hF.trans (kb_some hp _)
  have hs4 : g_X6_kindOf v r2 ≠ none := fun q => hs (hF.trans (kb_n q _))
  refine km_cS (As := [.int r2]) (rest := []) (n := 1) ⟨hx, hb, hml, hown, hts⟩ (d_X6_kindOf l E Z v r2 hs4) gX6_readGuard_X6_kindOf rfl hV_X6_kindOf ⟨Nat.le_of_ble_eq_true rfl, Nat.le_of_ble_eq_true rfl⟩ hK hw rfl hl.1 rfl (Nat.le_of_ble_eq_true rfl) dX6_readGuard_4 rfl rfl (fun r5 v6 H locs hp hw => ?_)
  obtain ⟨hp, rfl⟩ := hp
  have hF := hF.trans (kb_some hp _)
  refine lv_istore_n (lv' := [(1, .int r5), (0, .ref (Z.1 4 0))]) hx hb dX6_readGuard_7 rfl hl (by decide) rfl (fun ls hl => ?_)
  refine lv_iload_n hx hb dX6_readGuard_8 rfl (lv_at hl 0 rfl) ?_
  refine lv_ldc (v := (-1000000)) hx hb hown (hts (.constant RX6 95 (-1000000)) ow_X6_readGuard_95) dX6_readGuard_9 ?_
  refine lv_icmp_ne (tgt := 20) hx hb dX6_readGuard_11 (by decide) (fun c7 => ?_) (fun c7 => ?_)
  · skip
    have hF := hF.trans (if_neg c7)
    refine lv_aload_n hx hb dX6_readGuard_20 rfl (lv_at hl 1 rfl) ?_
    refine km_get (ci := 6) (C := RX6) (T := TX6) (N := 7) (t := 4) (i := 0) hx hb hts fi_X6_readGuard_X6 hown hK hw (by decide) (by decide) rfl rfl 1 (by decide) (hts (.fieldLink RX6 18 "WrongWord$Tape" "draft" "LWrongWord$Gate;") ow_X6_readGuard_18) rfl dX6_readGuard_21 ?_
    refine km_get (ci := 2) (C := RX2) (T := TX2) (N := 8) (t := 6) (i := 1) hx hb hts fi_X6_readGuard_X2 hown hK hw (by decide) (by decide) rfl rfl 7 (by decide) (hts (.fieldLink RX6 32 "WrongWord$Gate" "guards" "I") ow_X6_readGuard_32) rfl dX6_readGuard_24 ?_
    refine lv_iconst (v := 4) hx hb dX6_readGuard_27 (by decide) ?_
    refine lv_icmp_lt (tgt := 37) hx hb dX6_readGuard_28 (by decide) (fun c8 => ?_) (fun c8 => ?_)
    · skip
      have hF := hF.trans (if_pos c8)
      refine lv_aload_n hx hb dX6_readGuard_37 rfl (lv_at hl 1 rfl) ?_
      refine lv_dup hx hb dX6_readGuard_38 rfl ?_
      refine km_get (ci := 6) (C := RX6) (T := TX6) (N := 7) (t := 4) (i := 0) hx hb hts fi_X6_readGuard_X6 hown hK hw (by decide) (by decide) rfl rfl 5 (by decide) (hts (.fieldLink RX6 26 "WrongWord$Tape" "at" "I") ow_X6_readGuard_26) rfl dX6_readGuard_39 ?_
      refine lv_iconst (v := 1) hx hb dX6_readGuard_42 (by decide) ?_
      refine lv_iadd hx hb dX6_readGuard_43 ?_
      refine km_put (ci := 6) (C := RX6) (T := TX6) (N := 7) (t := 4) (i := 0) hx hb hts fi_X6_readGuard_X6 tyX6 tyX6_ok nmX6 hown hK hw (by decide) (by decide) rfl rfl 5 (by decide) (hts (.fieldLink RX6 26 "WrongWord$Tape" "at" "I") ow_X6_readGuard_26) rfl (by decide +kernel) (Nat.le_of_ble_eq_true rfl) rfl dX6_readGuard_44 (fun H locs hw => ?_)
      obtain ⟨v9, ev9⟩ : ∃ z, z = up3 v 4 0 5 ((v 4 0 5) + 1) := ⟨_, rfl⟩
      rw [← ev9] at hw
      have hF := hF.trans (kb_some (congrArg some ev9.symm) _)
      refine lv_aload_n hx hb dX6_readGuard_47 rfl (lv_at hl 1 rfl) ?_
      refine lv_bipush (v := 9) hx hb dX6_readGuard_48 (by decide) ?_
      have hs10 : g_X6_readNumber v9 9 ≠ none := fun q => hs (hF.trans (kb2_n q _))
      refine km_cI (As := [.int 9]) (rest := []) (n := 1) (q := (RX6, TX6, 7)) (ci := 6) (t := 4) (i := 0) ⟨hx, hb, hml, hown, hts⟩ (d_X6_readNumber l E Z v9 9 hs10) gX6_readGuard_X6_readNumber rfl hV_X6_readNumber ⟨Nat.le_of_ble_eq_true rfl, Nat.le_of_ble_eq_true rfl⟩ hK hw (by decide) (by decide) rfl rfl rfl hl.1 rfl (Nat.le_of_ble_eq_true rfl) dX6_readGuard_50 rfl rfl (fun r11 v12 H locs hp hw => ?_)
      obtain ⟨hp, hzr11⟩ := hp
      have hF := hF.trans (kb2_some hp _)
      refine lv_if_ne (tgt := 58) hx hb dX6_readGuard_53 (by decide) (fun c13 => ?_) (fun c13 => ?_)
      · skip
        have hF := hF.trans (if_neg c13)
        refine lv_aload_n hx hb dX6_readGuard_58 rfl (lv_at hl 1 rfl) ?_
        refine km_get (ci := 6) (C := RX6) (T := TX6) (N := 7) (t := 4) (i := 0) hx hb hts fi_X6_readGuard_X6 hown hK hw (by decide) (by decide) rfl rfl 1 (by decide) (hts (.fieldLink RX6 18 "WrongWord$Tape" "draft" "LWrongWord$Gate;") ow_X6_readGuard_18) rfl dX6_readGuard_59 ?_
        refine km_get (ci := 2) (C := RX2) (T := TX2) (N := 8) (t := 6) (i := 1) hx hb hts fi_X6_readGuard_X2 hown hK hw (by decide) (by decide) rfl rfl 1 (by decide) (hts (.fieldLink RX6 96 "WrongWord$Gate" "kinds" "[I") ow_X6_readGuard_96) rfl dX6_readGuard_62 ?_
        refine lv_aload_n hx hb dX6_readGuard_65 rfl (lv_at hl 1 rfl) ?_
        refine km_get (ci := 6) (C := RX6) (T := TX6) (N := 7) (t := 4) (i := 0) hx hb hts fi_X6_readGuard_X6 hown hK hw (by decide) (by decide) rfl rfl 1 (by decide) (hts (.fieldLink RX6 18 "WrongWord$Tape" "draft" "LWrongWord$Gate;") ow_X6_readGuard_18) rfl dX6_readGuard_66 ?_
        refine km_get (ci := 2) (C := RX2) (T := TX2) (N := 8) (t := 6) (i := 1) hx hb hts fi_X6_readGuard_X2 hown hK hw (by decide) (by decide) rfl rfl 7 (by decide) (hts (.fieldLink RX6 32 "WrongWord$Gate" "guards" "I") ow_X6_readGuard_32) rfl dX6_readGuard_69 ?_
        refine lv_iload_n hx hb dX6_readGuard_72 rfl (lv_at hl 0 rfl) ?_
        have hb14 : ¬ (v12 6 1 7 < 0 ∨ 4 ≤ Int32.toNatClampNeg (v12 6 1 7)) := fun q => hs (hF.trans (if_pos q))
        have hF := hF.trans (if_neg hb14)
        refine km_iast (t := 8) (i := 1) (n := 4) hx hb hK hw (by decide) (by decide) (fun _ => rfl) hb14 dX6_readGuard_73 (fun H locs hw => ?_)
        obtain ⟨v15, ev15⟩ : ∃ z, z = up3 v12 8 1 (Int32.toNatClampNeg (v12 6 1 7)) r5 := ⟨_, rfl⟩
        rw [← ev15] at hw
        have hF := hF.trans (kb_some (congrArg some ev15.symm) _)
        refine lv_aload_n hx hb dX6_readGuard_74 rfl (lv_at hl 1 rfl) ?_
        refine km_get (ci := 6) (C := RX6) (T := TX6) (N := 7) (t := 4) (i := 0) hx hb hts fi_X6_readGuard_X6 hown hK hw (by decide) (by decide) rfl rfl 1 (by decide) (hts (.fieldLink RX6 18 "WrongWord$Tape" "draft" "LWrongWord$Gate;") ow_X6_readGuard_18) rfl dX6_readGuard_75 ?_
        refine km_get (ci := 2) (C := RX2) (T := TX2) (N := 8) (t := 6) (i := 1) hx hb hts fi_X6_readGuard_X2 hown hK hw (by decide) (by decide) rfl rfl 2 (by decide) (hts (.fieldLink RX6 99 "WrongWord$Gate" "fees" "[I") ow_X6_readGuard_99) rfl dX6_readGuard_78 ?_
        refine lv_aload_n hx hb dX6_readGuard_81 rfl (lv_at hl 1 rfl) ?_
        refine km_get (ci := 6) (C := RX6) (T := TX6) (N := 7) (t := 4) (i := 0) hx hb hts fi_X6_readGuard_X6 hown hK hw (by decide) (by decide) rfl rfl 1 (by decide) (hts (.fieldLink RX6 18 "WrongWord$Tape" "draft" "LWrongWord$Gate;") ow_X6_readGuard_18) rfl dX6_readGuard_82 ?_
        refine km_get (ci := 2) (C := RX2) (T := TX2) (N := 8) (t := 6) (i := 1) hx hb hts fi_X6_readGuard_X2 hown hK hw (by decide) (by decide) rfl rfl 7 (by decide) (hts (.fieldLink RX6 32 "WrongWord$Gate" "guards" "I") ow_X6_readGuard_32) rfl dX6_readGuard_85 ?_
        refine lv_aload_n hx hb dX6_readGuard_88 rfl (lv_at hl 1 rfl) ?_
        refine km_get (ci := 6) (C := RX6) (T := TX6) (N := 7) (t := 4) (i := 0) hx hb hts fi_X6_readGuard_X6 hown hK hw (by decide) (by decide) rfl rfl 6 (by decide) (hts (.fieldLink RX6 66 "WrongWord$Tape" "value" "I") ow_X6_readGuard_66) rfl dX6_readGuard_89 ?_
        have hb16 : ¬ (v15 6 1 7 < 0 ∨ 4 ≤ Int32.toNatClampNeg (v15 6 1 7)) := fun q => hs (hF.trans (if_pos q))
        have hF := hF.trans (if_neg hb16)
        refine km_iast (t := 9) (i := 1) (n := 4) hx hb hK hw (by decide) (by decide) (fun _ => rfl) hb16 dX6_readGuard_92 (fun H locs hw => ?_)
        obtain ⟨v17, ev17⟩ : ∃ z, z = up3 v15 9 1 (Int32.toNatClampNeg (v15 6 1 7)) (v15 4 0 6) := ⟨_, rfl⟩
        rw [← ev17] at hw
        have hF := hF.trans (kb_some (congrArg some ev17.symm) _)
        refine lv_aload_n hx hb dX6_readGuard_93 rfl (lv_at hl 1 rfl) ?_
        refine km_get (ci := 6) (C := RX6) (T := TX6) (N := 7) (t := 4) (i := 0) hx hb hts fi_X6_readGuard_X6 hown hK hw (by decide) (by decide) rfl rfl 1 (by decide) (hts (.fieldLink RX6 18 "WrongWord$Tape" "draft" "LWrongWord$Gate;") ow_X6_readGuard_18) rfl dX6_readGuard_94 ?_
        refine lv_dup hx hb dX6_readGuard_97 rfl ?_
        refine km_get (ci := 2) (C := RX2) (T := TX2) (N := 8) (t := 6) (i := 1) hx hb hts fi_X6_readGuard_X2 hown hK hw (by decide) (by decide) rfl rfl 7 (by decide) (hts (.fieldLink RX6 32 "WrongWord$Gate" "guards" "I") ow_X6_readGuard_32) rfl dX6_readGuard_98 ?_
        refine lv_iconst (v := 1) hx hb dX6_readGuard_101 (by decide) ?_
        refine lv_iadd hx hb dX6_readGuard_102 ?_
        refine km_put (ci := 2) (C := RX2) (T := TX2) (N := 8) (t := 6) (i := 1) hx hb hts fi_X6_readGuard_X2 tyX2 tyX2_ok nmX2 hown hK hw (by decide) (by decide) rfl rfl 7 (by decide) (hts (.fieldLink RX6 32 "WrongWord$Gate" "guards" "I") ow_X6_readGuard_32) rfl (by decide +kernel) (Nat.le_of_ble_eq_true rfl) rfl dX6_readGuard_103 (fun H locs hw => ?_)
        obtain ⟨v18, ev18⟩ : ∃ z, z = up3 v17 6 1 7 ((v17 6 1 7) + 1) := ⟨_, rfl⟩
        rw [← ev18] at hw
        have hF := hF.trans (kb_some (congrArg some ev18.symm) _)
        refine lv_aload_n hx hb dX6_readGuard_106 rfl (lv_at hl 1 rfl) ?_
        refine lv_bipush (v := 59) hx hb dX6_readGuard_107 (by decide) ?_
        have hs19 : g_X6_readSign v18 59 ≠ none := fun q => hs (hF.trans (kb2_n q _))
        refine km_cI (As := [.int 59]) (rest := []) (n := 1) (q := (RX6, TX6, 7)) (ci := 6) (t := 4) (i := 0) ⟨hx, hb, hml, hown, hts⟩ (d_X6_readSign l E Z v18 59 hs19) gX6_readGuard_X6_readSign rfl hV_X6_readSign ⟨Nat.le_of_ble_eq_true rfl, Nat.le_of_ble_eq_true rfl⟩ hK hw (by decide) (by decide) rfl rfl rfl hl.1 rfl (Nat.le_of_ble_eq_true rfl) dX6_readGuard_109 rfl rfl (fun r20 v21 H locs hp hw => ?_)
        obtain ⟨hp, hzr20⟩ := hp
        have hF := hF.trans (kb2_some hp _)
        exact hret _ _ _ _ _ _ hw dX6_readGuard_112 hzr20 hF
      · skip
        have hF := hF.trans (if_pos c13)
        refine lv_iconst (v := 0) hx hb dX6_readGuard_56 (by decide) ?_
        exact hret _ _ _ _ _ _ hw dX6_readGuard_57 (Or.inl rfl) hF
    · skip
      have hF := hF.trans (if_neg c8)
      refine lv_aload_n hx hb dX6_readGuard_31 rfl (lv_at hl 1 rfl) ?_
      refine lv_iconst (v := 3) hx hb dX6_readGuard_32 (by decide) ?_
      have hs22 : g_X6_faulty v 3 ≠ none := fun q => hs (hF.trans (kb2_n q _))
      refine km_cI (As := [.int 3]) (rest := []) (n := 1) (q := (RX6, TX6, 7)) (ci := 6) (t := 4) (i := 0) ⟨hx, hb, hml, hown, hts⟩ (d_X6_faulty l E Z v 3 hs22) gX6_readGuard_X6_faulty rfl hV_X6_faulty ⟨Nat.le_of_ble_eq_true rfl, Nat.le_of_ble_eq_true rfl⟩ hK hw (by decide) (by decide) rfl rfl rfl hl.1 rfl (Nat.le_of_ble_eq_true rfl) dX6_readGuard_33 rfl rfl (fun r23 v24 H locs hp hw => ?_)
      obtain ⟨hp, hzr23⟩ := hp
      have hF := hF.trans (kb2_some hp _)
      exact hret _ _ _ _ _ _ hw dX6_readGuard_36 hzr23 hF
  · skip
    have hF := hF.trans (if_pos c7)
    refine lv_aload_n hx hb dX6_readGuard_14 rfl (lv_at hl 1 rfl) ?_
    refine lv_iconst (v := 1) hx hb dX6_readGuard_15 (by decide) ?_
    have hs25 : g_X6_faulty v 1 ≠ none := fun q => hs (hF.trans (kb2_n q _))
    refine km_cI (As := [.int 1]) (rest := []) (n := 1) (q := (RX6, TX6, 7)) (ci := 6) (t := 4) (i := 0) ⟨hx, hb, hml, hown, hts⟩ (d_X6_faulty l E Z v 1 hs25) gX6_readGuard_X6_faulty rfl hV_X6_faulty ⟨Nat.le_of_ble_eq_true rfl, Nat.le_of_ble_eq_true rfl⟩ hK hw (by decide) (by decide) rfl rfl rfl hl.1 rfl (Nat.le_of_ble_eq_true rfl) dX6_readGuard_16 rfl rfl (fun r26 v27 H locs hp hw => ?_)
    obtain ⟨hp, hzr26⟩ := hp
    have hF := hF.trans (kb2_some hp _)
    exact hret _ _ _ _ _ _ hw dX6_readGuard_19 hzr26 hF
abbrev rmX6_read : Room := { frames := 3, cells := 0, slots := 0, locals := 68 }
def b_X6_read_L80  (rec80 : Mm → Int32 → Option (Int32 × Mm))  (w80 : Mm) (x1_80 : Int32) : Option (Int32 × Mm) := if 4 ≤ x1_80 then (Option.bind (g_X4_begin w80 1 (w80 6 1 7)) (fun v20 => some (1, v20))) else (Option.bind (g_X6_here w80) (fun r22 => if r22 = (-1) then (Option.bind (g_X4_begin w80 1 (w80 6 1 7)) (fun v27 => some (1, v27))) else (kb2 (g_X6_readGuard w80) (fun r29 v30 => if r29 = 0 then (some (0, v30)) else (rec80 v30 (x1_80 + 1))))))
def g_X6_read_L80   : Nat → Mm → Int32 → Option (Int32 × Mm)
  | 0 => fun _ _ => none
  | n + 1 => b_X6_read_L80  (g_X6_read_L80   n) 
def b_X6_read_L39  (rec39 : Mm → Int32 → Option (Int32 × Mm))  (w39 : Mm) (x1_39 : Int32) : Option (Int32 × Mm) := if 6 ≤ x1_39 then (kb2 (g_X6_readGuard w39) (fun r14 v15 => if r14 = 0 then (some (0, v15)) else (g_X6_read_L80   2000 v15 0))) else (Option.bind (g_X6_here w39) (fun r18 => if r18 = 119 then (kb2 (g_X6_readWord w39) (fun r26 v27 => if r26 = 0 then (some (0, v27)) else (rec39 v27 (x1_39 + 1)))) else (kb2 (g_X6_readGuard w39) (fun r22 v23 => if r22 = 0 then (some (0, v23)) else (g_X6_read_L80   2000 v23 0)))))
def g_X6_read_L39   : Nat → Mm → Int32 → Option (Int32 × Mm)
  | 0 => fun _ _ => none
  | n + 1 => b_X6_read_L39  (g_X6_read_L39   n) 
def g_X6_read (v : Mm)  : Option (Int32 × Mm) := Option.bind (some (up3 v 4 0 5 0)) (fun v1 => Option.bind (some (up3 v1 6 1 6 0)) (fun v2 => Option.bind (some (up3 v2 6 1 7 0)) (fun v3 => kb2 (g_X6_readLaw v3) (fun r5 v6 => if r5 = 0 then (some (0, v6)) else (kb2 (g_X6_readWord v6) (fun r9 v10 => if r9 = 0 then (some (0, v10)) else (g_X6_read_L39   2000 v10 0)))))))
set_option maxHeartbeats 4000000 in
set_option maxRecDepth 100000 in
theorem d_X6_read (l : Launch) (E : kq_T) (Z : km_Z) (v : Mm) (hs : g_X6_read v ≠ none) : km_I l E Z cntX yX6_read wsX6_read rmX6_read [.ref (Z.1 4 0)] v (fun r v1 => (g_X6_read v = some (r, v1)) ∧ (r = 0 ∨ r = 1)) := by
  refine km_goZ (cc := cX6_read) (maxL := 2) (post := fun r v1 => g_X6_read v = some (r, v1)) (by decide) rfl (Nat.le_of_ble_eq_true rfl) rfl rfl rfl ?_
  intro p e s m below meth c A ls Q C hK hw hl hret
  obtain ⟨hx, hb, hml, hown, hts, -, -, -⟩ := C
  have hown : s.vm.findClass RX6 = some m.cls := hown
  have hl : lv_has ls 2 [(0, .ref (Z.1 4 0))] := hl
  have hF := g_X6_read.eq_1 v 
  have loop80 : ∀ (n80 : Nat) (w80 : Mm) (x1_80 : Int32) (H : Heap) (locs : List Loc) (ls : Array Slot), g_X6_read v = g_X6_read_L80   n80 w80 x1_80 → km_w E A s.heap [] Z cntX w80 H locs → lv_has ls 2 [(0, .ref (Z.1 4 0)), (1, .int x1_80)] → W p l e rmX6_read s m [.ref (Z.1 4 0)].toArray below meth c H locs 0 0 Q (F0 m 80 ls []) := by
    intro n80
    induction n80 with
    | zero => intro w80 x1_80 H locs ls hF hw hl; exact absurd (show g_X6_read v = none from hF) hs
    | succ n80 ih80 =>
      intro w80 x1_80 H locs ls hF hw hl
      have hF := hF.trans (b_X6_read_L80.eq_1  (g_X6_read_L80   n80)  w80 x1_80)
      refine lv_iload_n hx hb dX6_read_80 rfl (lv_at hl 1 rfl) ?_
      refine lv_iconst (v := 4) hx hb dX6_read_81 (by decide) ?_
      refine lv_icmp_ge (tgt := 108) hx hb dX6_read_82 (by decide) (fun c1 => ?_) (fun c1 => ?_)
      · skip
        have hF := hF.trans (if_pos c1)
        refine lv_aload_n hx hb dX6_read_108 rfl (lv_at hl 0 rfl) ?_
        refine km_get (ci := 6) (C := RX6) (T := TX6) (N := 7) (t := 4) (i := 0) hx hb hts fi_X6_read_X6 hown hK hw (by decide) (by decide) rfl rfl 1 (by decide) (hts (.fieldLink RX6 18 "WrongWord$Tape" "draft" "LWrongWord$Gate;") ow_X6_read_18) rfl dX6_read_109 ?_
        refine km_get (ci := 2) (C := RX2) (T := TX2) (N := 8) (t := 6) (i := 1) hx hb hts fi_X6_read_X2 hown hK hw (by decide) (by decide) rfl rfl 3 (by decide) (hts (.fieldLink RX6 49 "WrongWord$Gate" "now" "LWrongWord$Moment;") ow_X6_read_49) rfl dX6_read_112 ?_
        refine lv_aload_n hx hb dX6_read_115 rfl (lv_at hl 0 rfl) ?_
        refine km_get (ci := 6) (C := RX6) (T := TX6) (N := 7) (t := 4) (i := 0) hx hb hts fi_X6_read_X6 hown hK hw (by decide) (by decide) rfl rfl 1 (by decide) (hts (.fieldLink RX6 18 "WrongWord$Tape" "draft" "LWrongWord$Gate;") ow_X6_read_18) rfl dX6_read_116 ?_
        refine km_get (ci := 2) (C := RX2) (T := TX2) (N := 8) (t := 6) (i := 1) hx hb hts fi_X6_read_X2 hown hK hw (by decide) (by decide) rfl rfl 7 (by decide) (hts (.fieldLink RX6 32 "WrongWord$Gate" "guards" "I") ow_X6_read_32) rfl dX6_read_119 ?_
        have hs2 : g_X4_begin w80 1 (w80 6 1 7) ≠ none := fun q => hs (hF.trans (kb_n q _))
        refine km_cV (As := [.int (w80 6 1 7)]) (rest := []) (n := 1) (q := (RX4, TX4, 8)) (ci := 4) (t := 10) (i := 1) ⟨hx, hb, hml, hown, hts⟩ (d_X4_begin l E Z w80 1 (by decide) (w80 6 1 7) hs2) gX6_read_X4_begin rfl hV_X4_begin ⟨Nat.le_of_ble_eq_true rfl, Nat.le_of_ble_eq_true rfl⟩ hK hw (by decide) (by decide) rfl rfl rfl hl.1 rfl (Nat.le_of_ble_eq_true rfl) dX6_read_122 rfl rfl (fun v4 H locs hp hw => ?_)
        have hF := hF.trans (kb_some hp _)
        refine lv_iconst (v := 1) hx hb dX6_read_125 (by decide) ?_
        exact hret _ _ _ _ _ _ hw dX6_read_126 (Or.inr rfl) hF
      · skip
        have hF := hF.trans (if_neg c1)
        refine lv_aload_n hx hb dX6_read_85 rfl (lv_at hl 0 rfl) ?_
        have hs5 : g_X6_here w80 ≠ none := fun q => hs (hF.trans (kb_n q _))
        refine km_cI (As := []) (rest := []) (n := 0) (q := (RX6, TX6, 7)) (ci := 6) (t := 4) (i := 0) ⟨hx, hb, hml, hown, hts⟩ (d_X6_here l E Z w80  hs5) gX6_read_X6_here rfl hV_X6_here ⟨Nat.le_of_ble_eq_true rfl, Nat.le_of_ble_eq_true rfl⟩ hK hw (by decide) (by decide) rfl rfl rfl hl.1 rfl (Nat.le_of_ble_eq_true rfl) dX6_read_86 rfl rfl (fun r6 v7 H locs hp hw => ?_)
        obtain ⟨hp, rfl⟩ := hp
        have hF := hF.trans (kb_some hp _)
        refine lv_iconst (v := (-1)) hx hb dX6_read_89 (by decide) ?_
        refine lv_icmp_eq (tgt := 108) hx hb dX6_read_90 (by decide) (fun c8 => ?_) (fun c8 => ?_)
        · skip
          have hF := hF.trans (if_pos c8)
          refine lv_aload_n hx hb dX6_read_108 rfl (lv_at hl 0 rfl) ?_
          refine km_get (ci := 6) (C := RX6) (T := TX6) (N := 7) (t := 4) (i := 0) hx hb hts fi_X6_read_X6 hown hK hw (by decide) (by decide) rfl rfl 1 (by decide) (hts (.fieldLink RX6 18 "WrongWord$Tape" "draft" "LWrongWord$Gate;") ow_X6_read_18) rfl dX6_read_109 ?_
          refine km_get (ci := 2) (C := RX2) (T := TX2) (N := 8) (t := 6) (i := 1) hx hb hts fi_X6_read_X2 hown hK hw (by decide) (by decide) rfl rfl 3 (by decide) (hts (.fieldLink RX6 49 "WrongWord$Gate" "now" "LWrongWord$Moment;") ow_X6_read_49) rfl dX6_read_112 ?_
          refine lv_aload_n hx hb dX6_read_115 rfl (lv_at hl 0 rfl) ?_
          refine km_get (ci := 6) (C := RX6) (T := TX6) (N := 7) (t := 4) (i := 0) hx hb hts fi_X6_read_X6 hown hK hw (by decide) (by decide) rfl rfl 1 (by decide) (hts (.fieldLink RX6 18 "WrongWord$Tape" "draft" "LWrongWord$Gate;") ow_X6_read_18) rfl dX6_read_116 ?_
          refine km_get (ci := 2) (C := RX2) (T := TX2) (N := 8) (t := 6) (i := 1) hx hb hts fi_X6_read_X2 hown hK hw (by decide) (by decide) rfl rfl 7 (by decide) (hts (.fieldLink RX6 32 "WrongWord$Gate" "guards" "I") ow_X6_read_32) rfl dX6_read_119 ?_
          have hs9 : g_X4_begin w80 1 (w80 6 1 7) ≠ none := fun q => hs (hF.trans (kb_n q _))
          refine km_cV (As := [.int (w80 6 1 7)]) (rest := []) (n := 1) (q := (RX4, TX4, 8)) (ci := 4) (t := 10) (i := 1) ⟨hx, hb, hml, hown, hts⟩ (d_X4_begin l E Z w80 1 (by decide) (w80 6 1 7) hs9) gX6_read_X4_begin rfl hV_X4_begin ⟨Nat.le_of_ble_eq_true rfl, Nat.le_of_ble_eq_true rfl⟩ hK hw (by decide) (by decide) rfl rfl rfl hl.1 rfl (Nat.le_of_ble_eq_true rfl) dX6_read_122 rfl rfl (fun v11 H locs hp hw => ?_)
          have hF := hF.trans (kb_some hp _)
          refine lv_iconst (v := 1) hx hb dX6_read_125 (by decide) ?_
          exact hret _ _ _ _ _ _ hw dX6_read_126 (Or.inr rfl) hF
        · skip
          have hF := hF.trans (if_neg c8)
          refine lv_aload_n hx hb dX6_read_93 rfl (lv_at hl 0 rfl) ?_
          have hs12 : g_X6_readGuard w80 ≠ none := fun q => hs (hF.trans (kb2_n q _))
          refine km_cI (As := []) (rest := []) (n := 0) (q := (RX6, TX6, 7)) (ci := 6) (t := 4) (i := 0) ⟨hx, hb, hml, hown, hts⟩ (d_X6_readGuard l E Z w80  hs12) gX6_read_X6_readGuard rfl hV_X6_readGuard ⟨Nat.le_of_ble_eq_true rfl, Nat.le_of_ble_eq_true rfl⟩ hK hw (by decide) (by decide) rfl rfl rfl hl.1 rfl (Nat.le_of_ble_eq_true rfl) dX6_read_94 rfl rfl (fun r13 v14 H locs hp hw => ?_)
          obtain ⟨hp, hzr13⟩ := hp
          have hF := hF.trans (kb2_some hp _)
          refine lv_if_ne (tgt := 102) hx hb dX6_read_97 (by decide) (fun c15 => ?_) (fun c15 => ?_)
          · skip
            have hF := hF.trans (if_neg c15)
            refine lv_iinc (v := x1_80 + 1) (lv' := [(1, .int (x1_80 + 1)), (0, .ref (Z.1 4 0))]) hx hb dX6_read_102 hl (k := 1) rfl rfl (by decide) rfl (fun ls hl => ?_)
            refine lv_goto (tgt := 80) hx hb dX6_read_105 (by decide) ?_
            have hl := lv_sub (l' := [(0, .ref (Z.1 4 0)), (1, .int (x1_80 + 1))]) hl [1, 0] rfl
            exact ih80 v14 (x1_80 + 1) _ _ _ hF hw hl
          · skip
            have hF := hF.trans (if_pos c15)
            refine lv_iconst (v := 0) hx hb dX6_read_100 (by decide) ?_
            exact hret _ _ _ _ _ _ hw dX6_read_101 (Or.inl rfl) hF
  have loop39 : ∀ (n39 : Nat) (w39 : Mm) (x1_39 : Int32) (H : Heap) (locs : List Loc) (ls : Array Slot), g_X6_read v = g_X6_read_L39   n39 w39 x1_39 → km_w E A s.heap [] Z cntX w39 H locs → lv_has ls 2 [(0, .ref (Z.1 4 0)), (1, .int x1_39)] → W p l e rmX6_read s m [.ref (Z.1 4 0)].toArray below meth c H locs 0 0 Q (F0 m 39 ls []) := by
    intro n39
    induction n39 with
    | zero => intro w39 x1_39 H locs ls hF hw hl; exact absurd (show g_X6_read v = none from hF) hs
    | succ n39 ih39 =>
      intro w39 x1_39 H locs ls hF hw hl
      have hF := hF.trans (b_X6_read_L39.eq_1  (g_X6_read_L39   n39)  w39 x1_39)
      refine lv_iload_n hx hb dX6_read_39 rfl (lv_at hl 1 rfl) ?_
      refine lv_bipush (v := 6) hx hb dX6_read_40 (by decide) ?_
      refine lv_icmp_ge (tgt := 69) hx hb dX6_read_42 (by decide) (fun c16 => ?_) (fun c16 => ?_)
      · skip
        have hF := hF.trans (if_pos c16)
        refine lv_aload_n hx hb dX6_read_69 rfl (lv_at hl 0 rfl) ?_
        have hs17 : g_X6_readGuard w39 ≠ none := fun q => hs (hF.trans (kb2_n q _))
        refine km_cI (As := []) (rest := []) (n := 0) (q := (RX6, TX6, 7)) (ci := 6) (t := 4) (i := 0) ⟨hx, hb, hml, hown, hts⟩ (d_X6_readGuard l E Z w39  hs17) gX6_read_X6_readGuard rfl hV_X6_readGuard ⟨Nat.le_of_ble_eq_true rfl, Nat.le_of_ble_eq_true rfl⟩ hK hw (by decide) (by decide) rfl rfl rfl hl.1 rfl (Nat.le_of_ble_eq_true rfl) dX6_read_70 rfl rfl (fun r18 v19 H locs hp hw => ?_)
        obtain ⟨hp, hzr18⟩ := hp
        have hF := hF.trans (kb2_some hp _)
        refine lv_if_ne (tgt := 78) hx hb dX6_read_73 (by decide) (fun c20 => ?_) (fun c20 => ?_)
        · skip
          have hF := hF.trans (if_neg c20)
          refine lv_iconst (v := 0) hx hb dX6_read_78 (by decide) ?_
          refine lv_istore_n (lv' := [(1, .int 0), (0, .ref (Z.1 4 0))]) hx hb dX6_read_79 rfl hl (by decide) rfl (fun ls hl => ?_)
          have hl := lv_sub (l' := [(0, .ref (Z.1 4 0)), (1, .int 0)]) hl [1, 0] rfl
          exact loop80 2000 v19 0 _ _ _ hF hw hl
        · skip
          have hF := hF.trans (if_pos c20)
          refine lv_iconst (v := 0) hx hb dX6_read_76 (by decide) ?_
          exact hret _ _ _ _ _ _ hw dX6_read_77 (Or.inl rfl) hF
      · skip
        have hF := hF.trans (if_neg c16)
        refine lv_aload_n hx hb dX6_read_45 rfl (lv_at hl 0 rfl) ?_
        have hs21 : g_X6_here w39 ≠ none := fun q => hs (hF.trans (kb_n q _))
        refine km_cI (As := []) (rest := []) (n := 0) (q := (RX6, TX6, 7)) (ci := 6) (t := 4) (i := 0) ⟨hx, hb, hml, hown, hts⟩ (d_X6_here l E Z w39  hs21) gX6_read_X6_here rfl hV_X6_here ⟨Nat.le_of_ble_eq_true rfl, Nat.le_of_ble_eq_true rfl⟩ hK hw (by decide) (by decide) rfl rfl rfl hl.1 rfl (Nat.le_of_ble_eq_true rfl) dX6_read_46 rfl rfl (fun r22 v23 H locs hp hw => ?_)
        obtain ⟨hp, rfl⟩ := hp
        have hF := hF.trans (kb_some hp _)
        refine lv_bipush (v := 119) hx hb dX6_read_49 (by decide) ?_
        refine lv_icmp_ne (tgt := 69) hx hb dX6_read_51 (by decide) (fun c24 => ?_) (fun c24 => ?_)
        · skip
          have hF := hF.trans (if_neg c24)
          refine lv_aload_n hx hb dX6_read_69 rfl (lv_at hl 0 rfl) ?_
          have hs25 : g_X6_readGuard w39 ≠ none := fun q => hs (hF.trans (kb2_n q _))
          refine km_cI (As := []) (rest := []) (n := 0) (q := (RX6, TX6, 7)) (ci := 6) (t := 4) (i := 0) ⟨hx, hb, hml, hown, hts⟩ (d_X6_readGuard l E Z w39  hs25) gX6_read_X6_readGuard rfl hV_X6_readGuard ⟨Nat.le_of_ble_eq_true rfl, Nat.le_of_ble_eq_true rfl⟩ hK hw (by decide) (by decide) rfl rfl rfl hl.1 rfl (Nat.le_of_ble_eq_true rfl) dX6_read_70 rfl rfl (fun r26 v27 H locs hp hw => ?_)
          obtain ⟨hp, hzr26⟩ := hp
          have hF := hF.trans (kb2_some hp _)
          refine lv_if_ne (tgt := 78) hx hb dX6_read_73 (by decide) (fun c28 => ?_) (fun c28 => ?_)
          · skip
            have hF := hF.trans (if_neg c28)
            refine lv_iconst (v := 0) hx hb dX6_read_78 (by decide) ?_
            refine lv_istore_n (lv' := [(1, .int 0), (0, .ref (Z.1 4 0))]) hx hb dX6_read_79 rfl hl (by decide) rfl (fun ls hl => ?_)
            have hl := lv_sub (l' := [(0, .ref (Z.1 4 0)), (1, .int 0)]) hl [1, 0] rfl
            exact loop80 2000 v27 0 _ _ _ hF hw hl
          · skip
            have hF := hF.trans (if_pos c28)
            refine lv_iconst (v := 0) hx hb dX6_read_76 (by decide) ?_
            exact hret _ _ _ _ _ _ hw dX6_read_77 (Or.inl rfl) hF
        · skip
          have hF := hF.trans (if_pos c24)
          refine lv_aload_n hx hb dX6_read_54 rfl (lv_at hl 0 rfl) ?_
          have hs29 : g_X6_readWord w39 ≠ none := fun q => hs (hF.trans (kb2_n q _))
          refine km_cI (As := []) (rest := []) (n := 0) (q := (RX6, TX6, 7)) (ci := 6) (t := 4) (i := 0) ⟨hx, hb, hml, hown, hts⟩ (d_X6_readWord l E Z w39  hs29) gX6_read_X6_readWord rfl hV_X6_readWord ⟨Nat.le_of_ble_eq_true rfl, Nat.le_of_ble_eq_true rfl⟩ hK hw (by decide) (by decide) rfl rfl rfl hl.1 rfl (Nat.le_of_ble_eq_true rfl) dX6_read_55 rfl rfl (fun r30 v31 H locs hp hw => ?_)
          obtain ⟨hp, hzr30⟩ := hp
          have hF := hF.trans (kb2_some hp _)
          refine lv_if_ne (tgt := 63) hx hb dX6_read_58 (by decide) (fun c32 => ?_) (fun c32 => ?_)
          · skip
            have hF := hF.trans (if_neg c32)
            refine lv_iinc (v := x1_39 + 1) (lv' := [(1, .int (x1_39 + 1)), (0, .ref (Z.1 4 0))]) hx hb dX6_read_63 hl (k := 1) rfl rfl (by decide) rfl (fun ls hl => ?_)
            refine lv_goto (tgt := 39) hx hb dX6_read_66 (by decide) ?_
            have hl := lv_sub (l' := [(0, .ref (Z.1 4 0)), (1, .int (x1_39 + 1))]) hl [1, 0] rfl
            exact ih39 v31 (x1_39 + 1) _ _ _ hF hw hl
          · skip
            have hF := hF.trans (if_pos c32)
            refine lv_iconst (v := 0) hx hb dX6_read_61 (by decide) ?_
            exact hret _ _ _ _ _ _ hw dX6_read_62 (Or.inl rfl) hF
  refine lv_aload_n hx hb dX6_read_0 rfl (lv_at hl 0 rfl) ?_
  refine lv_iconst (v := 0) hx hb dX6_read_1 (by decide) ?_
  refine km_put (ci := 6) (C := RX6) (T := TX6) (N := 7) (t := 4) (i := 0) hx hb hts fi_X6_read_X6 tyX6 tyX6_ok nmX6 hown hK hw (by decide) (by decide) rfl rfl 5 (by decide) (hts (.fieldLink RX6 26 "WrongWord$Tape" "at" "I") ow_X6_read_26) rfl (by decide +kernel) (Nat.le_of_ble_eq_true rfl) rfl dX6_read_2 (fun H locs hw => ?_)
  obtain ⟨v33, ev33⟩ : ∃ z, z = up3 v 4 0 5 0 := ⟨_, rfl⟩
  rw [← ev33] at hw
  have hF := hF.trans (kb_some (congrArg some ev33.symm) _)
  refine lv_aload_n hx hb dX6_read_5 rfl (lv_at hl 0 rfl) ?_
  refine km_get (ci := 6) (C := RX6) (T := TX6) (N := 7) (t := 4) (i := 0) hx hb hts fi_X6_read_X6 hown hK hw (by decide) (by decide) rfl rfl 1 (by decide) (hts (.fieldLink RX6 18 "WrongWord$Tape" "draft" "LWrongWord$Gate;") ow_X6_read_18) rfl dX6_read_6 ?_
  refine lv_iconst (v := 0) hx hb dX6_read_9 (by decide) ?_
  refine km_put (ci := 2) (C := RX2) (T := TX2) (N := 8) (t := 6) (i := 1) hx hb hts fi_X6_read_X2 tyX2 tyX2_ok nmX2 hown hK hw (by decide) (by decide) rfl rfl 6 (by decide) (hts (.fieldLink RX6 29 "WrongWord$Gate" "words" "I") ow_X6_read_29) rfl (by decide +kernel) (Nat.le_of_ble_eq_true rfl) rfl dX6_read_10 (fun H locs hw => ?_)
  obtain ⟨v34, ev34⟩ : ∃ z, z = up3 v33 6 1 6 0 := ⟨_, rfl⟩
  rw [← ev34] at hw
  have hF := hF.trans (kb_some (congrArg some ev34.symm) _)
  refine lv_aload_n hx hb dX6_read_13 rfl (lv_at hl 0 rfl) ?_
  refine km_get (ci := 6) (C := RX6) (T := TX6) (N := 7) (t := 4) (i := 0) hx hb hts fi_X6_read_X6 hown hK hw (by decide) (by decide) rfl rfl 1 (by decide) (hts (.fieldLink RX6 18 "WrongWord$Tape" "draft" "LWrongWord$Gate;") ow_X6_read_18) rfl dX6_read_14 ?_
  refine lv_iconst (v := 0) hx hb dX6_read_17 (by decide) ?_
  refine km_put (ci := 2) (C := RX2) (T := TX2) (N := 8) (t := 6) (i := 1) hx hb hts fi_X6_read_X2 tyX2 tyX2_ok nmX2 hown hK hw (by decide) (by decide) rfl rfl 7 (by decide) (hts (.fieldLink RX6 32 "WrongWord$Gate" "guards" "I") ow_X6_read_32) rfl (by decide +kernel) (Nat.le_of_ble_eq_true rfl) rfl dX6_read_18 (fun H locs hw => ?_)
  obtain ⟨v35, ev35⟩ : ∃ z, z = up3 v34 6 1 7 0 := ⟨_, rfl⟩
  rw [← ev35] at hw
  have hF := hF.trans (kb_some (congrArg some ev35.symm) _)
  refine lv_aload_n hx hb dX6_read_21 rfl (lv_at hl 0 rfl) ?_
  have hs36 : g_X6_readLaw v35 ≠ none := fun q => hs (hF.trans (kb2_n q _))
  refine km_cI (As := []) (rest := []) (n := 0) (q := (RX6, TX6, 7)) (ci := 6) (t := 4) (i := 0) ⟨hx, hb, hml, hown, hts⟩ (d_X6_readLaw l E Z v35  hs36) gX6_read_X6_readLaw rfl hV_X6_readLaw ⟨Nat.le_of_ble_eq_true rfl, Nat.le_of_ble_eq_true rfl⟩ hK hw (by decide) (by decide) rfl rfl rfl hl.1 rfl (Nat.le_of_ble_eq_true rfl) dX6_read_22 rfl rfl (fun r37 v38 H locs hp hw => ?_)
  obtain ⟨hp, hzr37⟩ := hp
  have hF := hF.trans (kb2_some hp _)
  refine lv_if_eq (tgt := 35) hx hb dX6_read_25 (by decide) (fun c39 => ?_) (fun c39 => ?_)
  · skip
    have hF := hF.trans (if_pos c39)
    refine lv_iconst (v := 0) hx hb dX6_read_35 (by decide) ?_
    exact hret _ _ _ _ _ _ hw dX6_read_36 (Or.inl rfl) hF
  · skip
    have hF := hF.trans (if_neg c39)
    refine lv_aload_n hx hb dX6_read_28 rfl (lv_at hl 0 rfl) ?_
    have hs40 : g_X6_readWord v38 ≠ none := fun q => hs (hF.trans (kb2_n q _))
    refine km_cI (As := []) (rest := []) (n := 0) (q := (RX6, TX6, 7)) (ci := 6) (t := 4) (i := 0) ⟨hx, hb, hml, hown, hts⟩ (d_X6_readWord l E Z v38  hs40) gX6_read_X6_readWord rfl hV_X6_readWord ⟨Nat.le_of_ble_eq_true rfl, Nat.le_of_ble_eq_true rfl⟩ hK hw (by decide) (by decide) rfl rfl rfl hl.1 rfl (Nat.le_of_ble_eq_true rfl) dX6_read_29 rfl rfl (fun r41 v42 H locs hp hw => ?_)
    obtain ⟨hp, hzr41⟩ := hp
    have hF := hF.trans (kb2_some hp _)
    refine lv_if_ne (tgt := 37) hx hb dX6_read_32 (by decide) (fun c43 => ?_) (fun c43 => ?_)
    · skip
      have hF := hF.trans (if_neg c43)
      refine lv_iconst (v := 0) hx hb dX6_read_37 (by decide) ?_
      refine lv_istore_n (lv' := [(1, .int 0), (0, .ref (Z.1 4 0))]) hx hb dX6_read_38 rfl hl (by decide) rfl (fun ls hl => ?_)
      have hl := lv_sub (l' := [(0, .ref (Z.1 4 0)), (1, .int 0)]) hl [1, 0] rfl
      exact loop39 2000 v42 0 _ _ _ hF hw hl
    · skip
      have hF := hF.trans (if_pos c43)
      refine lv_iconst (v := 0) hx hb dX6_read_35 (by decide) ?_
      exact hret _ _ _ _ _ _ hw dX6_read_36 (Or.inl rfl) hF
abbrev rmX7_isRow : Room := { frames := 0, cells := 0, slots := 0, locals := 0 }
def g_X7_isRow (v : Mm) (a1 : Int32) : Option (Int32) := if a1 < 0 then (some 0) else (if 8 ≤ a1 then (some 0) else (some 1))
set_option maxHeartbeats 4000000 in
set_option maxRecDepth 100000 in
theorem d_X7_isRow (l : Launch) (E : kq_T) (Z : km_Z) (v : Mm) (a1 : Int32) (hs : g_X7_isRow v a1 ≠ none) : km_I l E Z cntX yX7_isRow wsX7_isRow rmX7_isRow [.ref (Z.1 0 0), .int a1] v (fun r v1 => (g_X7_isRow v a1 = some r ∧ v = v1) ∧ (r = 0 ∨ r = 1)) := by
  refine km_goZ (cc := cX7_isRow) (maxL := 2) (post := fun r v1 => g_X7_isRow v a1 = some r ∧ v = v1) (by decide) rfl (Nat.le_of_ble_eq_true rfl) rfl rfl rfl ?_
  intro p e s m below meth c A ls Q C hK hw hl hret
  obtain ⟨hx, hb, hml, hown, hts, -, -, -⟩ := C
  have hown : s.vm.findClass RX7 = some m.cls := hown
  have hl : lv_has ls 2 [(0, .ref (Z.1 0 0)), (1, .int a1)] := hl
  have hF := g_X7_isRow.eq_1 v a1
  refine lv_iload_n hx hb dX7_isRow_0 rfl (lv_at hl 1 rfl) ?_
  refine lv_if_lt (tgt := 14) hx hb dX7_isRow_1 (by decide) (fun c1 => ?_) (fun c1 => ?_)
  · skip
    have hF := hF.trans (if_pos c1)
    refine lv_iconst (v := 0) hx hb dX7_isRow_14 (by decide) ?_
    exact hret _ _ _ _ _ _ hw dX7_isRow_15 (Or.inl rfl) ⟨hF, rfl⟩
  · skip
    have hF := hF.trans (if_neg c1)
    refine lv_iload_n hx hb dX7_isRow_4 rfl (lv_at hl 1 rfl) ?_
    refine lv_bipush (v := 8) hx hb dX7_isRow_5 (by decide) ?_
    refine lv_icmp_ge (tgt := 14) hx hb dX7_isRow_7 (by decide) (fun c2 => ?_) (fun c2 => ?_)
    · skip
      have hF := hF.trans (if_pos c2)
      refine lv_iconst (v := 0) hx hb dX7_isRow_14 (by decide) ?_
      exact hret _ _ _ _ _ _ hw dX7_isRow_15 (Or.inl rfl) ⟨hF, rfl⟩
    · skip
      have hF := hF.trans (if_neg c2)
      refine lv_iconst (v := 1) hx hb dX7_isRow_10 (by decide) ?_
      refine lv_goto (tgt := 15) hx hb dX7_isRow_11 (by decide) ?_
      exact hret _ _ _ _ _ _ hw dX7_isRow_15 (Or.inr rfl) ⟨hF, rfl⟩
abbrev rmX7_found : Room := { frames := 0, cells := 0, slots := 0, locals := 0 }
def g_X7_found (v : Mm) (a1 : Int32) : Option (Int32 × Mm) := Option.bind (some (up3 v 0 0 8 a1)) (fun v1 => some (((-1000010)) - a1, v1))
set_option maxHeartbeats 4000000 in
set_option maxRecDepth 100000 in
theorem d_X7_found (l : Launch) (E : kq_T) (Z : km_Z) (v : Mm) (a1 : Int32) (hs : g_X7_found v a1 ≠ none) : km_I l E Z cntX yX7_found wsX7_found rmX7_found [.ref (Z.1 0 0), .int a1] v (fun r v1 => g_X7_found v a1 = some (r, v1)) := by
  refine km_goI (cc := cX7_found) (maxL := 2) (by decide) rfl (Nat.le_of_ble_eq_true rfl) rfl rfl rfl ?_
  intro p e s m below meth c A ls Q C hK hw hl hret
  obtain ⟨hx, hb, hml, hown, hts, -, -, -⟩ := C
  have hown : s.vm.findClass RX7 = some m.cls := hown
  have hl : lv_has ls 2 [(0, .ref (Z.1 0 0)), (1, .int a1)] := hl
  have hF := g_X7_found.eq_1 v a1
  refine lv_aload_n hx hb dX7_found_0 rfl (lv_at hl 0 rfl) ?_
  refine lv_iload_n hx hb dX7_found_1 rfl (lv_at hl 1 rfl) ?_
  refine km_put (ci := 7) (C := RX7) (T := TX7) (N := 9) (t := 0) (i := 0) hx hb hts fi_X7_found_X7 tyX7 tyX7_ok nmX7 hown hK hw (by decide) (by decide) rfl rfl 8 (by decide) (hts (.fieldLink RX7 333 "WrongWord" "latestFinding" "I") ow_X7_found_333) rfl (by decide +kernel) (Nat.le_of_ble_eq_true rfl) rfl dX7_found_2 (fun H locs hw => ?_)
  obtain ⟨v1, ev1⟩ : ∃ z, z = up3 v 0 0 8 a1 := ⟨_, rfl⟩
  rw [← ev1] at hw
  have hF := hF.trans (kb_some (congrArg some ev1.symm) _)
  refine lv_ldcw (v := (-1000010)) hx hb hown (hts (.constant RX7 336 (-1000010)) ow_X7_found_336) dX7_found_5 ?_
  refine lv_iload_n hx hb dX7_found_8 rfl (lv_at hl 1 rfl) ?_
  refine lv_isub hx hb dX7_found_9 ?_
  exact hret _ _ _ _ _ _ hw dX7_found_10 hF
abbrev rmX7_unfound : Room := { frames := 0, cells := 0, slots := 0, locals := 0 }
def g_X7_unfound (v : Mm) (a1 : Int32) : Option (Int32 × Mm) := Option.bind (some (up3 v 0 0 8 0)) (fun v1 => some (a1, v1))
set_option maxHeartbeats 4000000 in
set_option maxRecDepth 100000 in
theorem d_X7_unfound (l : Launch) (E : kq_T) (Z : km_Z) (v : Mm) (a1 : Int32) (hs : g_X7_unfound v a1 ≠ none) : km_I l E Z cntX yX7_unfound wsX7_unfound rmX7_unfound [.ref (Z.1 0 0), .int a1] v (fun r v1 => g_X7_unfound v a1 = some (r, v1)) := by
  refine km_goI (cc := cX7_unfound) (maxL := 2) (by decide) rfl (Nat.le_of_ble_eq_true rfl) rfl rfl rfl ?_
  intro p e s m below meth c A ls Q C hK hw hl hret
  obtain ⟨hx, hb, hml, hown, hts, -, -, -⟩ := C
  have hown : s.vm.findClass RX7 = some m.cls := hown
  have hl : lv_has ls 2 [(0, .ref (Z.1 0 0)), (1, .int a1)] := hl
  have hF := g_X7_unfound.eq_1 v a1
  refine lv_aload_n hx hb dX7_unfound_0 rfl (lv_at hl 0 rfl) ?_
  refine lv_iconst (v := 0) hx hb dX7_unfound_1 (by decide) ?_
  refine km_put (ci := 7) (C := RX7) (T := TX7) (N := 9) (t := 0) (i := 0) hx hb hts fi_X7_unfound_X7 tyX7 tyX7_ok nmX7 hown hK hw (by decide) (by decide) rfl rfl 8 (by decide) (hts (.fieldLink RX7 333 "WrongWord" "latestFinding" "I") ow_X7_unfound_333) rfl (by decide +kernel) (Nat.le_of_ble_eq_true rfl) rfl dX7_unfound_2 (fun H locs hw => ?_)
  obtain ⟨v1, ev1⟩ : ∃ z, z = up3 v 0 0 8 0 := ⟨_, rfl⟩
  rw [← ev1] at hw
  have hF := hF.trans (kb_some (congrArg some ev1.symm) _)
  refine lv_iload_n hx hb dX7_unfound_5 rfl (lv_at hl 1 rfl) ?_
  exact hret _ _ _ _ _ _ hw dX7_unfound_6 hF
abbrev rmX7_row : Room := { frames := 1, cells := 0, slots := 0, locals := 23 }
def g_X7_row (v : Mm) (a1 : Int32) (a2 : Int32) (a3 : Int32) : Option (Int32 × Mm) := Option.bind (g_X7_isRow v a1) (fun r2 => if r2 = 0 then (some ((-1000001), v)) else (if a2 < 0 then (some ((-1000001), v)) else (if 2 < a2 then (some ((-1000001), v)) else (if a3 ≤ 40 then (if 0 ≤ a3 then (if a1 < 0 ∨ 8 ≤ Int32.toNatClampNeg a1 then none else (Option.bind (g_X5_make v ((Int32.toNatClampNeg a1)) a2 a3) (fun v12 => kb2 (g_X7_unfound v12 a3) (fun r14 v15 => some (r14, v15))))) else (kb2 (g_X7_found v 4) (fun r17 v18 => some (r17, v18)))) else (some ((-1000001), v))))))
set_option maxHeartbeats 4000000 in
set_option maxRecDepth 100000 in
theorem d_X7_row (l : Launch) (E : kq_T) (Z : km_Z) (v : Mm) (a1 : Int32) (a2 : Int32) (a3 : Int32) (hs : g_X7_row v a1 a2 a3 ≠ none) : km_I l E Z cntX yX7_row wsX7_row rmX7_row [.ref (Z.1 0 0), .int a1, .int a2, .int a3] v (fun r v1 => g_X7_row v a1 a2 a3 = some (r, v1)) := by
  refine km_goI (cc := cX7_row) (maxL := 4) (by decide) rfl (Nat.le_of_ble_eq_true rfl) rfl rfl rfl ?_
  intro p e s m below meth c A ls Q C hK hw hl hret
  obtain ⟨hx, hb, hml, hown, hts, -, -, -⟩ := C
  have hown : s.vm.findClass RX7 = some m.cls := hown
  have hl : lv_has ls 4 [(0, .ref (Z.1 0 0)), (1, .int a1), (2, .int a2), (3, .int a3)] := hl
  have hF := g_X7_row.eq_1 v a1 a2 a3
  refine lv_aload_n hx hb dX7_row_0 rfl (lv_at hl 0 rfl) ?_
  refine lv_iload_n hx hb dX7_row_1 rfl (lv_at hl 1 rfl) ?_
  have hs1 : g_X7_isRow v a1 ≠ none := fun q => hs (hF.trans (kb_n q _))
  refine km_cI (As := [.int a1]) (rest := []) (n := 1) (q := (RX7, TX7, 9)) (ci := 7) (t := 0) (i := 0) ⟨hx, hb, hml, hown, hts⟩ (d_X7_isRow l E Z v a1 hs1) gX7_row_X7_isRow rfl hV_X7_isRow ⟨Nat.le_of_ble_eq_true rfl, Nat.le_of_ble_eq_true rfl⟩ hK hw (by decide) (by decide) rfl rfl rfl hl.1 rfl (Nat.le_of_ble_eq_true rfl) dX7_row_2 rfl rfl (fun r2 v3 H locs hp hw => ?_)
  obtain ⟨hp, hzr2⟩ := hp
  obtain ⟨hp, rfl⟩ := hp
  have hF := hF.trans (kb_some hp _)
  refine lv_if_eq (tgt := 23) hx hb dX7_row_5 (by decide) (fun c4 => ?_) (fun c4 => ?_)
  · skip
    have hF := hF.trans (if_pos c4)
    refine lv_ldc (v := (-1000001)) hx hb hown (hts (.constant RX7 59 (-1000001)) ow_X7_row_59) dX7_row_23 ?_
    exact hret _ _ _ _ _ _ hw dX7_row_25 hF
  · skip
    have hF := hF.trans (if_neg c4)
    refine lv_iload_n hx hb dX7_row_8 rfl (lv_at hl 2 rfl) ?_
    refine lv_if_lt (tgt := 23) hx hb dX7_row_9 (by decide) (fun c5 => ?_) (fun c5 => ?_)
    · skip
      have hF := hF.trans (if_pos c5)
      refine lv_ldc (v := (-1000001)) hx hb hown (hts (.constant RX7 59 (-1000001)) ow_X7_row_59) dX7_row_23 ?_
      exact hret _ _ _ _ _ _ hw dX7_row_25 hF
    · skip
      have hF := hF.trans (if_neg c5)
      refine lv_iload_n hx hb dX7_row_12 rfl (lv_at hl 2 rfl) ?_
      refine lv_iconst (v := 2) hx hb dX7_row_13 (by decide) ?_
      refine lv_icmp_gt (tgt := 23) hx hb dX7_row_14 (by decide) (fun c6 => ?_) (fun c6 => ?_)
      · skip
        have hF := hF.trans (if_pos c6)
        refine lv_ldc (v := (-1000001)) hx hb hown (hts (.constant RX7 59 (-1000001)) ow_X7_row_59) dX7_row_23 ?_
        exact hret _ _ _ _ _ _ hw dX7_row_25 hF
      · skip
        have hF := hF.trans (if_neg c6)
        refine lv_iload_n hx hb dX7_row_17 rfl (lv_at hl 3 rfl) ?_
        refine lv_bipush (v := 40) hx hb dX7_row_18 (by decide) ?_
        refine lv_icmp_le (tgt := 26) hx hb dX7_row_20 (by decide) (fun c7 => ?_) (fun c7 => ?_)
        · skip
          have hF := hF.trans (if_pos c7)
          refine lv_iload_n hx hb dX7_row_26 rfl (lv_at hl 3 rfl) ?_
          refine lv_if_ge (tgt := 36) hx hb dX7_row_27 (by decide) (fun c8 => ?_) (fun c8 => ?_)
          · skip
            have hF := hF.trans (if_pos c8)
            refine lv_aload_n hx hb dX7_row_36 rfl (lv_at hl 0 rfl) ?_
            refine km_get (ci := 7) (C := RX7) (T := TX7) (N := 9) (t := 0) (i := 0) hx hb hts fi_X7_row_X7 hown hK hw (by decide) (by decide) rfl rfl 0 (by decide) (hts (.fieldLink RX7 11 "WrongWord" "rows" "[LWrongWord$Row;") ow_X7_row_11) rfl dX7_row_37 ?_
            refine lv_iload_n hx hb dX7_row_40 rfl (lv_at hl 1 rfl) ?_
            have hb9 : ¬ (a1 < 0 ∨ 8 ≤ Int32.toNatClampNeg a1) := fun q => hs (hF.trans (if_pos q))
            have hF := hF.trans (if_neg hb9)
            refine km_rows hx hb hK hw (by decide) hb9 dX7_row_41 ?_
            refine lv_iload_n hx hb dX7_row_42 rfl (lv_at hl 2 rfl) ?_
            refine lv_iload_n hx hb dX7_row_43 rfl (lv_at hl 3 rfl) ?_
            have hs10 : g_X5_make v ((Int32.toNatClampNeg a1)) a2 a3 ≠ none := fun q => hs (hF.trans (kb_n q _))
            refine km_cV (As := [.int a2, .int a3]) (rest := []) (n := 2) (q := (RX5, TX5, 3)) (ci := 5) (t := 2) (i := (Int32.toNatClampNeg a1)) ⟨hx, hb, hml, hown, hts⟩ (d_X5_make l E Z v ((Int32.toNatClampNeg a1)) (Nat.not_le.mp fun h9 => hb9 (Or.inr h9)) a2 a3 hs10) gX7_row_X5_make rfl hV_X5_make ⟨Nat.le_of_ble_eq_true rfl, Nat.le_of_ble_eq_true rfl⟩ hK hw (by decide) (Nat.not_le.mp fun h9 => hb9 (Or.inr h9)) rfl rfl rfl hl.1 rfl (Nat.le_of_ble_eq_true rfl) dX7_row_44 rfl rfl (fun v12 H locs hp hw => ?_)
            have hF := hF.trans (kb_some hp _)
            refine lv_aload_n hx hb dX7_row_47 rfl (lv_at hl 0 rfl) ?_
            refine lv_iload_n hx hb dX7_row_48 rfl (lv_at hl 3 rfl) ?_
            have hs13 : g_X7_unfound v12 a3 ≠ none := fun q => hs (hF.trans (kb2_n q _))
            refine km_cI (As := [.int a3]) (rest := []) (n := 1) (q := (RX7, TX7, 9)) (ci := 7) (t := 0) (i := 0) ⟨hx, hb, hml, hown, hts⟩ (d_X7_unfound l E Z v12 a3 hs13) gX7_row_X7_unfound rfl hV_X7_unfound ⟨Nat.le_of_ble_eq_true rfl, Nat.le_of_ble_eq_true rfl⟩ hK hw (by decide) (by decide) rfl rfl rfl hl.1 rfl (Nat.le_of_ble_eq_true rfl) dX7_row_49 rfl rfl (fun r14 v15 H locs hp hw => ?_)
            have hF := hF.trans (kb2_some hp _)
            exact hret _ _ _ _ _ _ hw dX7_row_52 hF
          · skip
            have hF := hF.trans (if_neg c8)
            refine lv_aload_n hx hb dX7_row_30 rfl (lv_at hl 0 rfl) ?_
            refine lv_iconst (v := 4) hx hb dX7_row_31 (by decide) ?_
            have hs16 : g_X7_found v 4 ≠ none := fun q => hs (hF.trans (kb2_n q _))
            refine km_cI (As := [.int 4]) (rest := []) (n := 1) (q := (RX7, TX7, 9)) (ci := 7) (t := 0) (i := 0) ⟨hx, hb, hml, hown, hts⟩ (d_X7_found l E Z v 4 hs16) gX7_row_X7_found rfl hV_X7_found ⟨Nat.le_of_ble_eq_true rfl, Nat.le_of_ble_eq_true rfl⟩ hK hw (by decide) (by decide) rfl rfl rfl hl.1 rfl (Nat.le_of_ble_eq_true rfl) dX7_row_32 rfl rfl (fun r17 v18 H locs hp hw => ?_)
            have hF := hF.trans (kb2_some hp _)
            exact hret _ _ _ _ _ _ hw dX7_row_35 hF
        · skip
          have hF := hF.trans (if_neg c7)
          refine lv_ldc (v := (-1000001)) hx hb hown (hts (.constant RX7 59 (-1000001)) ow_X7_row_59) dX7_row_23 ?_
          exact hret _ _ _ _ _ _ hw dX7_row_25 hF
abbrev rmX7_set : Room := { frames := 2, cells := 0, slots := 0, locals := 44 }
def g_X7_set (v : Mm) (a1 : Int32) (a2 : Int32) (a3 : Int32) : Option (Int32 × Mm) := Option.bind (g_X7_isRow v a1) (fun r2 => if r2 = 0 then (some ((-1000001), v)) else (if a1 < 0 ∨ 8 ≤ Int32.toNatClampNeg a1 then none else (Option.bind (g_X5_findingOf v ((Int32.toNatClampNeg a1)) a2 1) (fun r7 => if r7 = 0 then (if a1 < 0 ∨ 8 ≤ Int32.toNatClampNeg a1 then none else (kb2 (g_X5_put v ((Int32.toNatClampNeg a1)) a2 a3) (fun r12 v13 => kb2 (g_X7_unfound v13 r12) (fun r15 v16 => some (r15, v16))))) else (kb2 (g_X7_found v r7) (fun r18 v19 => some (r18, v19)))))))
set_option maxHeartbeats 4000000 in
set_option maxRecDepth 100000 in
theorem d_X7_set (l : Launch) (E : kq_T) (Z : km_Z) (v : Mm) (a1 : Int32) (a2 : Int32) (a3 : Int32) (hs : g_X7_set v a1 a2 a3 ≠ none) : km_I l E Z cntX yX7_set wsX7_set rmX7_set [.ref (Z.1 0 0), .int a1, .int a2, .int a3] v (fun r v1 => g_X7_set v a1 a2 a3 = some (r, v1)) := by
  refine km_goI (cc := cX7_set) (maxL := 5) (by decide) rfl (Nat.le_of_ble_eq_true rfl) rfl rfl rfl ?_
  intro p e s m below meth c A ls Q C hK hw hl hret
  obtain ⟨hx, hb, hml, hown, hts, -, -, -⟩ := C
  have hown : s.vm.findClass RX7 = some m.cls := hown
  have hl : lv_has ls 5 [(0, .ref (Z.1 0 0)), (1, .int a1), (2, .int a2), (3, .int a3)] := hl
  have hF := g_X7_set.eq_1 v a1 a2 a3
  refine lv_aload_n hx hb dX7_set_0 rfl (lv_at hl 0 rfl) ?_
  refine lv_iload_n hx hb dX7_set_1 rfl (lv_at hl 1 rfl) ?_
  have hs1 : g_X7_isRow v a1 ≠ none := fun q => hs (hF.trans (kb_n q _))
  refine km_cI (As := [.int a1]) (rest := []) (n := 1) (q := (RX7, TX7, 9)) (ci := 7) (t := 0) (i := 0) ⟨hx, hb, hml, hown, hts⟩ (d_X7_isRow l E Z v a1 hs1) gX7_set_X7_isRow rfl hV_X7_isRow ⟨Nat.le_of_ble_eq_true rfl, Nat.le_of_ble_eq_true rfl⟩ hK hw (by decide) (by decide) rfl rfl rfl hl.1 rfl (Nat.le_of_ble_eq_true rfl) dX7_set_2 rfl rfl (fun r2 v3 H locs hp hw => ?_)
  obtain ⟨hp, hzr2⟩ := hp
  obtain ⟨hp, rfl⟩ := hp
  have hF := hF.trans (kb_some hp _)
  refine lv_if_ne (tgt := 11) hx hb dX7_set_5 (by decide) (fun c4 => ?_) (fun c4 => ?_)
  · skip
    have hF := hF.trans (if_neg c4)
    refine lv_aload_n hx hb dX7_set_11 rfl (lv_at hl 0 rfl) ?_
    refine km_get (ci := 7) (C := RX7) (T := TX7) (N := 9) (t := 0) (i := 0) hx hb hts fi_X7_set_X7 hown hK hw (by decide) (by decide) rfl rfl 0 (by decide) (hts (.fieldLink RX7 11 "WrongWord" "rows" "[LWrongWord$Row;") ow_X7_set_11) rfl dX7_set_12 ?_
    refine lv_iload_n hx hb dX7_set_15 rfl (lv_at hl 1 rfl) ?_
    have hb5 : ¬ (a1 < 0 ∨ 8 ≤ Int32.toNatClampNeg a1) := fun q => hs (hF.trans (if_pos q))
    have hF := hF.trans (if_neg hb5)
    refine km_rows hx hb hK hw (by decide) hb5 dX7_set_16 ?_
    refine lv_iload_n hx hb dX7_set_17 rfl (lv_at hl 2 rfl) ?_
    refine lv_iconst (v := 1) hx hb dX7_set_18 (by decide) ?_
    have hs6 : g_X5_findingOf v ((Int32.toNatClampNeg a1)) a2 1 ≠ none := fun q => hs (hF.trans (kb_n q _))
    refine km_cI (As := [.int a2, .int 1]) (rest := []) (n := 2) (q := (RX5, TX5, 3)) (ci := 5) (t := 2) (i := (Int32.toNatClampNeg a1)) ⟨hx, hb, hml, hown, hts⟩ (d_X5_findingOf l E Z v ((Int32.toNatClampNeg a1)) (Nat.not_le.mp fun h9 => hb5 (Or.inr h9)) a2 1 hs6) gX7_set_X5_findingOf rfl hV_X5_findingOf ⟨Nat.le_of_ble_eq_true rfl, Nat.le_of_ble_eq_true rfl⟩ hK hw (by decide) (Nat.not_le.mp fun h9 => hb5 (Or.inr h9)) rfl rfl rfl hl.1 rfl (Nat.le_of_ble_eq_true rfl) dX7_set_19 rfl rfl (fun r7 v8 H locs hp hw => ?_)
    obtain ⟨hp, rfl⟩ := hp
    have hF := hF.trans (kb_some hp _)
    refine lv_istore (lv' := [(4, .int r7), (0, .ref (Z.1 0 0)), (1, .int a1), (2, .int a2), (3, .int a3)]) hx hb dX7_set_22 hl (by decide) rfl (fun ls hl => ?_)
    refine lv_iload hx hb dX7_set_24 (lv_at hl 0 rfl) ?_
    refine lv_if_eq (tgt := 38) hx hb dX7_set_26 (by decide) (fun c9 => ?_) (fun c9 => ?_)
    · skip
      have hF := hF.trans (if_pos c9)
      refine lv_aload_n hx hb dX7_set_38 rfl (lv_at hl 1 rfl) ?_
      refine lv_aload_n hx hb dX7_set_39 rfl (lv_at hl 1 rfl) ?_
      refine km_get (ci := 7) (C := RX7) (T := TX7) (N := 9) (t := 0) (i := 0) hx hb hts fi_X7_set_X7 hown hK hw (by decide) (by decide) rfl rfl 0 (by decide) (hts (.fieldLink RX7 11 "WrongWord" "rows" "[LWrongWord$Row;") ow_X7_set_11) rfl dX7_set_40 ?_
      refine lv_iload_n hx hb dX7_set_43 rfl (lv_at hl 2 rfl) ?_
      have hb10 : ¬ (a1 < 0 ∨ 8 ≤ Int32.toNatClampNeg a1) := fun q => hs (hF.trans (if_pos q))
      have hF := hF.trans (if_neg hb10)
      refine km_rows hx hb hK hw (by decide) hb10 dX7_set_44 ?_
      refine lv_iload_n hx hb dX7_set_45 rfl (lv_at hl 3 rfl) ?_
      refine lv_iload_n hx hb dX7_set_46 rfl (lv_at hl 4 rfl) ?_
      have hs11 : g_X5_put v ((Int32.toNatClampNeg a1)) a2 a3 ≠ none := fun q => hs (hF.trans (kb2_n q _))
      refine km_cI (As := [.int a2, .int a3]) (rest := [.ref (Z.1 0 0)]) (n := 2) (q := (RX5, TX5, 3)) (ci := 5) (t := 2) (i := (Int32.toNatClampNeg a1)) ⟨hx, hb, hml, hown, hts⟩ (d_X5_put l E Z v ((Int32.toNatClampNeg a1)) (Nat.not_le.mp fun h9 => hb10 (Or.inr h9)) a2 a3 hs11) gX7_set_X5_put rfl hV_X5_put ⟨Nat.le_of_ble_eq_true rfl, Nat.le_of_ble_eq_true rfl⟩ hK hw (by decide) (Nat.not_le.mp fun h9 => hb10 (Or.inr h9)) rfl rfl rfl hl.1 rfl (Nat.le_of_ble_eq_true rfl) dX7_set_47 rfl rfl (fun r12 v13 H locs hp hw => ?_)
      have hF := hF.trans (kb2_some hp _)
      have hs14 : g_X7_unfound v13 r12 ≠ none := fun q => hs (hF.trans (kb2_n q _))
      refine km_cI (As := [.int r12]) (rest := []) (n := 1) (q := (RX7, TX7, 9)) (ci := 7) (t := 0) (i := 0) ⟨hx, hb, hml, hown, hts⟩ (d_X7_unfound l E Z v13 r12 hs14) gX7_set_X7_unfound rfl hV_X7_unfound ⟨Nat.le_of_ble_eq_true rfl, Nat.le_of_ble_eq_true rfl⟩ hK hw (by decide) (by decide) rfl rfl rfl hl.1 rfl (Nat.le_of_ble_eq_true rfl) dX7_set_50 rfl rfl (fun r15 v16 H locs hp hw => ?_)
      have hF := hF.trans (kb2_some hp _)
      exact hret _ _ _ _ _ _ hw dX7_set_53 hF
    · skip
      have hF := hF.trans (if_neg c9)
      refine lv_aload_n hx hb dX7_set_29 rfl (lv_at hl 1 rfl) ?_
      refine lv_iload hx hb dX7_set_30 (lv_at hl 0 rfl) ?_
      have hs17 : g_X7_found v r7 ≠ none := fun q => hs (hF.trans (kb2_n q _))
      refine km_cI (As := [.int r7]) (rest := []) (n := 1) (q := (RX7, TX7, 9)) (ci := 7) (t := 0) (i := 0) ⟨hx, hb, hml, hown, hts⟩ (d_X7_found l E Z v r7 hs17) gX7_set_X7_found rfl hV_X7_found ⟨Nat.le_of_ble_eq_true rfl, Nat.le_of_ble_eq_true rfl⟩ hK hw (by decide) (by decide) rfl rfl rfl hl.1 rfl (Nat.le_of_ble_eq_true rfl) dX7_set_32 rfl rfl (fun r18 v19 H locs hp hw => ?_)
      have hF := hF.trans (kb2_some hp _)
      refine lv_goto (tgt := 53) hx hb dX7_set_35 (by decide) ?_
      exact hret _ _ _ _ _ _ hw dX7_set_53 hF
  · skip
    have hF := hF.trans (if_pos c4)
    refine lv_ldc (v := (-1000001)) hx hb hown (hts (.constant RX7 59 (-1000001)) ow_X7_set_59) dX7_set_8 ?_
    exact hret _ _ _ _ _ _ hw dX7_set_10 hF
abbrev rmX7_copy : Room := { frames := 1, cells := 0, slots := 0, locals := 64 }
def g_X7_copy (v : Mm) (a1 : Int32) (a2 : Int32) (a3 : Int32) (a4 : Int32) (a5 : Int32) : Option (Int32 × Mm) := Option.bind (g_X7_isRow v a1) (fun r2 => if r2 = 0 then (some ((-1000001), v)) else (Option.bind (g_X7_isRow v a3) (fun r6 => if r6 = 0 then (some ((-1000001), v)) else (if a1 < 0 ∨ 8 ≤ Int32.toNatClampNeg a1 then none else (if a3 < 0 ∨ 8 ≤ Int32.toNatClampNeg a3 then none else (if v 2 ((Int32.toNatClampNeg a1)) 1 = (-1) then (kb2 (g_X7_found v 1) (fun r13 v14 => some (r13, v14))) else (if v 2 ((Int32.toNatClampNeg a3)) 1 = (-1) then (kb2 (g_X7_found v 1) (fun r40 v41 => some (r40, v41))) else (if v 2 ((Int32.toNatClampNeg a1)) 1 = v 2 ((Int32.toNatClampNeg a3)) 1 then (Option.bind (g_X5_reaches v ((Int32.toNatClampNeg a1)) a2 a5) (fun r18 => if r18 = 0 then (kb2 (g_X7_found v 2) (fun r22 v23 => some (r22, v23))) else (Option.bind (g_X5_reaches v ((Int32.toNatClampNeg a3)) a4 a5) (fun r25 => if r25 = 0 then (kb2 (g_X7_found v 2) (fun r34 v35 => some (r34, v35))) else (if a2 < 0 ∨ a4 < 0 ∨ a5 < 0 ∨ 40 < (Int32.toNatClampNeg a2) + (Int32.toNatClampNeg a5) ∨ 40 < (Int32.toNatClampNeg a4) + (Int32.toNatClampNeg a5) then none else (Option.bind (some (cpy3 v 3 ((Int32.toNatClampNeg a1)) (Int32.toNatClampNeg a2) 3 ((Int32.toNatClampNeg a3)) (Int32.toNatClampNeg a4) (Int32.toNatClampNeg a5))) (fun v29 => kb2 (g_X7_unfound v29 a5) (fun r31 v32 => some (r31, v32))))))))) else (kb2 (g_X7_found v 5) (fun r37 v38 => some (r37, v38)))))))))))
set_option maxHeartbeats 4000000 in
set_option maxRecDepth 100000 in
theorem d_X7_copy (l : Launch) (E : kq_T) (Z : km_Z) (v : Mm) (a1 : Int32) (a2 : Int32) (a3 : Int32) (a4 : Int32) (a5 : Int32) (hs : g_X7_copy v a1 a2 a3 a4 a5 ≠ none) : km_I l E Z cntX yX7_copy wsX7_copy rmX7_copy [.ref (Z.1 0 0), .int a1, .int a2, .int a3, .int a4, .int a5] v (fun r v1 => g_X7_copy v a1 a2 a3 a4 a5 = some (r, v1)) := by
  refine km_goI (cc := cX7_copy) (maxL := 8) (by decide) rfl (Nat.le_of_ble_eq_true rfl) rfl rfl rfl ?_
  intro p e s m below meth c A ls Q C hK hw hl hret
  obtain ⟨hx, hb, hml, hown, hts, -, -, -⟩ := C
  have hown : s.vm.findClass RX7 = some m.cls := hown
  have hl : lv_has ls 8 [(0, .ref (Z.1 0 0)), (1, .int a1), (2, .int a2), (3, .int a3), (4, .int a4), (5, .int a5)] := hl
  have hF := g_X7_copy.eq_1 v a1 a2 a3 a4 a5
  refine lv_aload_n hx hb dX7_copy_0 rfl (lv_at hl 0 rfl) ?_
  refine lv_iload_n hx hb dX7_copy_1 rfl (lv_at hl 1 rfl) ?_
  have hs1 : g_X7_isRow v a1 ≠ none := fun q => hs (hF.trans (kb_n q _))
  refine km_cI (As := [.int a1]) (rest := []) (n := 1) (q := (RX7, TX7, 9)) (ci := 7) (t := 0) (i := 0) ⟨hx, hb, hml, hown, hts⟩ (d_X7_isRow l E Z v a1 hs1) gX7_copy_X7_isRow rfl hV_X7_isRow ⟨Nat.le_of_ble_eq_true rfl, Nat.le_of_ble_eq_true rfl⟩ hK hw (by decide) (by decide) rfl rfl rfl hl.1 rfl (Nat.le_of_ble_eq_true rfl) dX7_copy_2 rfl rfl (fun r2 v3 H locs hp hw => ?_)
  obtain ⟨hp, hzr2⟩ := hp
  obtain ⟨hp, rfl⟩ := hp
  have hF := hF.trans (kb_some hp _)
  refine lv_if_eq (tgt := 16) hx hb dX7_copy_5 (by decide) (fun c4 => ?_) (fun c4 => ?_)
  · skip
    have hF := hF.trans (if_pos c4)
    refine lv_ldc (v := (-1000001)) hx hb hown (hts (.constant RX7 59 (-1000001)) ow_X7_copy_59) dX7_copy_16 ?_
    exact hret _ _ _ _ _ _ hw dX7_copy_18 hF
  · skip
    have hF := hF.trans (if_neg c4)
    refine lv_aload_n hx hb dX7_copy_8 rfl (lv_at hl 0 rfl) ?_
    refine lv_iload_n hx hb dX7_copy_9 rfl (lv_at hl 3 rfl) ?_
    have hs5 : g_X7_isRow v a3 ≠ none := fun q => hs (hF.trans (kb_n q _))
    refine km_cI (As := [.int a3]) (rest := []) (n := 1) (q := (RX7, TX7, 9)) (ci := 7) (t := 0) (i := 0) ⟨hx, hb, hml, hown, hts⟩ (d_X7_isRow l E Z v a3 hs5) gX7_copy_X7_isRow rfl hV_X7_isRow ⟨Nat.le_of_ble_eq_true rfl, Nat.le_of_ble_eq_true rfl⟩ hK hw (by decide) (by decide) rfl rfl rfl hl.1 rfl (Nat.le_of_ble_eq_true rfl) dX7_copy_10 rfl rfl (fun r6 v7 H locs hp hw => ?_)
    obtain ⟨hp, hzr6⟩ := hp
    obtain ⟨hp, rfl⟩ := hp
    have hF := hF.trans (kb_some hp _)
    refine lv_if_ne (tgt := 19) hx hb dX7_copy_13 (by decide) (fun c8 => ?_) (fun c8 => ?_)
    · skip
      have hF := hF.trans (if_neg c8)
      refine lv_aload_n hx hb dX7_copy_19 rfl (lv_at hl 0 rfl) ?_
      refine km_get (ci := 7) (C := RX7) (T := TX7) (N := 9) (t := 0) (i := 0) hx hb hts fi_X7_copy_X7 hown hK hw (by decide) (by decide) rfl rfl 0 (by decide) (hts (.fieldLink RX7 11 "WrongWord" "rows" "[LWrongWord$Row;") ow_X7_copy_11) rfl dX7_copy_20 ?_
      refine lv_iload_n hx hb dX7_copy_23 rfl (lv_at hl 1 rfl) ?_
      have hb9 : ¬ (a1 < 0 ∨ 8 ≤ Int32.toNatClampNeg a1) := fun q => hs (hF.trans (if_pos q))
      have hF := hF.trans (if_neg hb9)
      refine km_rows hx hb hK hw (by decide) hb9 dX7_copy_24 ?_
      refine lv_astore (lv' := [(6, .ref (Z.1 2 ((Int32.toNatClampNeg a1)))), (0, .ref (Z.1 0 0)), (1, .int a1), (2, .int a2), (3, .int a3), (4, .int a4), (5, .int a5)]) hx hb dX7_copy_25 hl (by decide) rfl (fun ls hl => ?_)
      refine lv_aload_n hx hb dX7_copy_27 rfl (lv_at hl 1 rfl) ?_
      refine km_get (ci := 7) (C := RX7) (T := TX7) (N := 9) (t := 0) (i := 0) hx hb hts fi_X7_copy_X7 hown hK hw (by decide) (by decide) rfl rfl 0 (by decide) (hts (.fieldLink RX7 11 "WrongWord" "rows" "[LWrongWord$Row;") ow_X7_copy_11) rfl dX7_copy_28 ?_
      refine lv_iload_n hx hb dX7_copy_31 rfl (lv_at hl 4 rfl) ?_
      have hb10 : ¬ (a3 < 0 ∨ 8 ≤ Int32.toNatClampNeg a3) := fun q => hs (hF.trans (if_pos q))
      have hF := hF.trans (if_neg hb10)
      refine km_rows hx hb hK hw (by decide) hb10 dX7_copy_32 ?_
      refine lv_astore (lv' := [(7, .ref (Z.1 2 ((Int32.toNatClampNeg a3)))), (6, .ref (Z.1 2 ((Int32.toNatClampNeg a1)))), (0, .ref (Z.1 0 0)), (1, .int a1), (2, .int a2), (3, .int a3), (4, .int a4), (5, .int a5)]) hx hb dX7_copy_33 hl (by decide) rfl (fun ls hl => ?_)
      refine lv_aload hx hb dX7_copy_35 (lv_at hl 1 rfl) ?_
      refine km_get (ci := 5) (C := RX5) (T := TX5) (N := 3) (t := 2) (i := (Int32.toNatClampNeg a1)) hx hb hts fi_X7_copy_X5 hown hK hw (by decide) (Nat.not_le.mp fun h9 => hb9 (Or.inr h9)) rfl rfl 1 (by decide) (hts (.fieldLink RX7 78 "WrongWord$Row" "lane" "I") ow_X7_copy_78) rfl dX7_copy_37 ?_
      refine lv_iconst (v := (-1)) hx hb dX7_copy_40 (by decide) ?_
      refine lv_icmp_eq (tgt := 53) hx hb dX7_copy_41 (by decide) (fun c11 => ?_) (fun c11 => ?_)
      · skip
        have hF := hF.trans (if_pos c11)
        refine lv_aload_n hx hb dX7_copy_53 rfl (lv_at hl 2 rfl) ?_
        refine lv_iconst (v := 1) hx hb dX7_copy_54 (by decide) ?_
        have hs12 : g_X7_found v 1 ≠ none := fun q => hs (hF.trans (kb2_n q _))
        refine km_cI (As := [.int 1]) (rest := []) (n := 1) (q := (RX7, TX7, 9)) (ci := 7) (t := 0) (i := 0) ⟨hx, hb, hml, hown, hts⟩ (d_X7_found l E Z v 1 hs12) gX7_copy_X7_found rfl hV_X7_found ⟨Nat.le_of_ble_eq_true rfl, Nat.le_of_ble_eq_true rfl⟩ hK hw (by decide) (by decide) rfl rfl rfl hl.1 rfl (Nat.le_of_ble_eq_true rfl) dX7_copy_55 rfl rfl (fun r13 v14 H locs hp hw => ?_)
        have hF := hF.trans (kb2_some hp _)
        exact hret _ _ _ _ _ _ hw dX7_copy_58 hF
      · skip
        have hF := hF.trans (if_neg c11)
        refine lv_aload hx hb dX7_copy_44 (lv_at hl 0 rfl) ?_
        refine km_get (ci := 5) (C := RX5) (T := TX5) (N := 3) (t := 2) (i := (Int32.toNatClampNeg a3)) hx hb hts fi_X7_copy_X5 hown hK hw (by decide) (Nat.not_le.mp fun h9 => hb10 (Or.inr h9)) rfl rfl 1 (by decide) (hts (.fieldLink RX7 78 "WrongWord$Row" "lane" "I") ow_X7_copy_78) rfl dX7_copy_46 ?_
        refine lv_iconst (v := (-1)) hx hb dX7_copy_49 (by decide) ?_
        refine lv_icmp_ne (tgt := 59) hx hb dX7_copy_50 (by decide) (fun c15 => ?_) (fun c15 => ?_)
        · skip
          have hF := hF.trans (if_neg c15)
          refine lv_aload hx hb dX7_copy_59 (lv_at hl 1 rfl) ?_
          refine km_get (ci := 5) (C := RX5) (T := TX5) (N := 3) (t := 2) (i := (Int32.toNatClampNeg a1)) hx hb hts fi_X7_copy_X5 hown hK hw (by decide) (Nat.not_le.mp fun h9 => hb9 (Or.inr h9)) rfl rfl 1 (by decide) (hts (.fieldLink RX7 78 "WrongWord$Row" "lane" "I") ow_X7_copy_78) rfl dX7_copy_61 ?_
          refine lv_aload hx hb dX7_copy_64 (lv_at hl 0 rfl) ?_
          refine km_get (ci := 5) (C := RX5) (T := TX5) (N := 3) (t := 2) (i := (Int32.toNatClampNeg a3)) hx hb hts fi_X7_copy_X5 hown hK hw (by decide) (Nat.not_le.mp fun h9 => hb10 (Or.inr h9)) rfl rfl 1 (by decide) (hts (.fieldLink RX7 78 "WrongWord$Row" "lane" "I") ow_X7_copy_78) rfl dX7_copy_66 ?_
          refine lv_icmp_eq (tgt := 78) hx hb dX7_copy_69 (by decide) (fun c16 => ?_) (fun c16 => ?_)
          · skip
            have hF := hF.trans (if_pos c16)
            refine lv_aload hx hb dX7_copy_78 (lv_at hl 1 rfl) ?_
            refine lv_iload_n hx hb dX7_copy_80 rfl (lv_at hl 4 rfl) ?_
            refine lv_iload hx hb dX7_copy_81 (lv_at hl 7 rfl) ?_
            have hs17 : g_X5_reaches v ((Int32.toNatClampNeg a1)) a2 a5 ≠ none := fun q => hs (hF.trans (kb_n q _))
            refine km_cI (As := [.int a2, .int a5]) (rest := []) (n := 2) (q := (RX5, TX5, 3)) (ci := 5) (t := 2) (i := (Int32.toNatClampNeg a1)) ⟨hx, hb, hml, hown, hts⟩ (d_X5_reaches l E Z v ((Int32.toNatClampNeg a1)) (Nat.not_le.mp fun h9 => hb9 (Or.inr h9)) a2 a5 hs17) gX7_copy_X5_reaches rfl hV_X5_reaches ⟨Nat.le_of_ble_eq_true rfl, Nat.le_of_ble_eq_true rfl⟩ hK hw (by decide) (Nat.not_le.mp fun h9 => hb9 (Or.inr h9)) rfl rfl rfl hl.1 rfl (Nat.le_of_ble_eq_true rfl) dX7_copy_83 rfl rfl (fun r18 v19 H locs hp hw => ?_)
            obtain ⟨hp, hzr18⟩ := hp
            obtain ⟨hp, rfl⟩ := hp
            have hF := hF.trans (kb_some hp _)
            refine lv_if_eq (tgt := 101) hx hb dX7_copy_86 (by decide) (fun c20 => ?_) (fun c20 => ?_)
            · skip
              have hF := hF.trans (if_pos c20)
              refine lv_aload_n hx hb dX7_copy_101 rfl (lv_at hl 2 rfl) ?_
              refine lv_iconst (v := 2) hx hb dX7_copy_102 (by decide) ?_
              have hs21 : g_X7_found v 2 ≠ none := fun q => hs (hF.trans (kb2_n q _))
              refine km_cI (As := [.int 2]) (rest := []) (n := 1) (q := (RX7, TX7, 9)) (ci := 7) (t := 0) (i := 0) ⟨hx, hb, hml, hown, hts⟩ (d_X7_found l E Z v 2 hs21) gX7_copy_X7_found rfl hV_X7_found ⟨Nat.le_of_ble_eq_true rfl, Nat.le_of_ble_eq_true rfl⟩ hK hw (by decide) (by decide) rfl rfl rfl hl.1 rfl (Nat.le_of_ble_eq_true rfl) dX7_copy_103 rfl rfl (fun r22 v23 H locs hp hw => ?_)
              have hF := hF.trans (kb2_some hp _)
              exact hret _ _ _ _ _ _ hw dX7_copy_106 hF
            · skip
              have hF := hF.trans (if_neg c20)
              refine lv_aload hx hb dX7_copy_89 (lv_at hl 0 rfl) ?_
              refine lv_iload hx hb dX7_copy_91 (lv_at hl 6 rfl) ?_
              refine lv_iload hx hb dX7_copy_93 (lv_at hl 7 rfl) ?_
              have hs24 : g_X5_reaches v ((Int32.toNatClampNeg a3)) a4 a5 ≠ none := fun q => hs (hF.trans (kb_n q _))
              refine km_cI (As := [.int a4, .int a5]) (rest := []) (n := 2) (q := (RX5, TX5, 3)) (ci := 5) (t := 2) (i := (Int32.toNatClampNeg a3)) ⟨hx, hb, hml, hown, hts⟩ (d_X5_reaches l E Z v ((Int32.toNatClampNeg a3)) (Nat.not_le.mp fun h9 => hb10 (Or.inr h9)) a4 a5 hs24) gX7_copy_X5_reaches rfl hV_X5_reaches ⟨Nat.le_of_ble_eq_true rfl, Nat.le_of_ble_eq_true rfl⟩ hK hw (by decide) (Nat.not_le.mp fun h9 => hb10 (Or.inr h9)) rfl rfl rfl hl.1 rfl (Nat.le_of_ble_eq_true rfl) dX7_copy_95 rfl rfl (fun r25 v26 H locs hp hw => ?_)
              obtain ⟨hp, hzr25⟩ := hp
              obtain ⟨hp, rfl⟩ := hp
              have hF := hF.trans (kb_some hp _)
              refine lv_if_ne (tgt := 107) hx hb dX7_copy_98 (by decide) (fun c27 => ?_) (fun c27 => ?_)
              · skip
                have hF := hF.trans (if_neg c27)
                refine lv_aload hx hb dX7_copy_107 (lv_at hl 1 rfl) ?_
                refine km_get (ci := 5) (C := RX5) (T := TX5) (N := 3) (t := 2) (i := (Int32.toNatClampNeg a1)) hx hb hts fi_X7_copy_X5 hown hK hw (by decide) (Nat.not_le.mp fun h9 => hb9 (Or.inr h9)) rfl rfl 0 (by decide) (hts (.fieldLink RX7 86 "WrongWord$Row" "items" "[I") ow_X7_copy_86) rfl dX7_copy_109 ?_
                refine lv_iload_n hx hb dX7_copy_112 rfl (lv_at hl 4 rfl) ?_
                refine lv_aload hx hb dX7_copy_113 (lv_at hl 0 rfl) ?_
                refine km_get (ci := 5) (C := RX5) (T := TX5) (N := 3) (t := 2) (i := (Int32.toNatClampNeg a3)) hx hb hts fi_X7_copy_X5 hown hK hw (by decide) (Nat.not_le.mp fun h9 => hb10 (Or.inr h9)) rfl rfl 0 (by decide) (hts (.fieldLink RX7 86 "WrongWord$Row" "items" "[I") ow_X7_copy_86) rfl dX7_copy_115 ?_
                refine lv_iload hx hb dX7_copy_118 (lv_at hl 6 rfl) ?_
                refine lv_iload hx hb dX7_copy_120 (lv_at hl 7 rfl) ?_
                have hb28 : ¬ (a2 < 0 ∨ a4 < 0 ∨ a5 < 0 ∨ 40 < (Int32.toNatClampNeg a2) + (Int32.toNatClampNeg a5) ∨ 40 < (Int32.toNatClampNeg a4) + (Int32.toNatClampNeg a5)) := fun q => hs (hF.trans (if_pos q))
                have hF := hF.trans (if_neg hb28)
                refine km_copy (t1 := 3) (i1 := (Int32.toNatClampNeg a1)) (t2 := 3) (i2 := (Int32.toNatClampNeg a3)) (n0 := 40) (n1 := 40) hx hb (hml.trans hl.1.symm) hown (hts (.methodLink RX7 90 arraycopyName) (by decide +kernel)) (hts (.native arraycopyName) (by decide +kernel)) (hts (.static arraycopyName) (by decide +kernel)) (hts (.initialized "java/lang/System") (by decide +kernel)) hK hw (by decide) (Nat.not_le.mp fun h9 => hb9 (Or.inr h9)) (by decide) (Nat.not_le.mp fun h9 => hb10 (Or.inr h9)) (fun _ => rfl) (fun _ => rfl) (fun q => hb28 (Or.inl q)) (fun q => hb28 (Or.inr (Or.inl q))) (fun q => hb28 (Or.inr (Or.inr (Or.inl q)))) (Nat.not_lt.mp fun q => hb28 (Or.inr (Or.inr (Or.inr (Or.inl q))))) (Nat.not_lt.mp fun q => hb28 (Or.inr (Or.inr (Or.inr (Or.inr q))))) (Nat.le_of_ble_eq_true rfl) (Nat.le_of_ble_eq_true rfl) dX7_copy_122 (fun H locs hw => ?_)
                obtain ⟨v29, ev29⟩ : ∃ z, z = cpy3 v 3 ((Int32.toNatClampNeg a1)) (Int32.toNatClampNeg a2) 3 ((Int32.toNatClampNeg a3)) (Int32.toNatClampNeg a4) (Int32.toNatClampNeg a5) := ⟨_, rfl⟩
                rw [← ev29] at hw
                have hF := hF.trans (kb_some (congrArg some ev29.symm) _)
                refine lv_aload_n hx hb dX7_copy_125 rfl (lv_at hl 2 rfl) ?_
                refine lv_iload hx hb dX7_copy_126 (lv_at hl 7 rfl) ?_
                have hs30 : g_X7_unfound v29 a5 ≠ none := fun q => hs (hF.trans (kb2_n q _))
                refine km_cI (As := [.int a5]) (rest := []) (n := 1) (q := (RX7, TX7, 9)) (ci := 7) (t := 0) (i := 0) ⟨hx, hb, hml, hown, hts⟩ (d_X7_unfound l E Z v29 a5 hs30) gX7_copy_X7_unfound rfl hV_X7_unfound ⟨Nat.le_of_ble_eq_true rfl, Nat.le_of_ble_eq_true rfl⟩ hK hw (by decide) (by decide) rfl rfl rfl hl.1 rfl (Nat.le_of_ble_eq_true rfl) dX7_copy_128 rfl rfl (fun r31 v32 H locs hp hw => ?_)
                have hF := hF.trans (kb2_some hp _)
                exact hret _ _ _ _ _ _ hw dX7_copy_131 hF
              · skip
                have hF := hF.trans (if_pos c27)
                refine lv_aload_n hx hb dX7_copy_101 rfl (lv_at hl 2 rfl) ?_
                refine lv_iconst (v := 2) hx hb dX7_copy_102 (by decide) ?_
                have hs33 : g_X7_found v 2 ≠ none := fun q => hs (hF.trans (kb2_n q _))
                refine km_cI (As := [.int 2]) (rest := []) (n := 1) (q := (RX7, TX7, 9)) (ci := 7) (t := 0) (i := 0) ⟨hx, hb, hml, hown, hts⟩ (d_X7_found l E Z v 2 hs33) gX7_copy_X7_found rfl hV_X7_found ⟨Nat.le_of_ble_eq_true rfl, Nat.le_of_ble_eq_true rfl⟩ hK hw (by decide) (by decide) rfl rfl rfl hl.1 rfl (Nat.le_of_ble_eq_true rfl) dX7_copy_103 rfl rfl (fun r34 v35 H locs hp hw => ?_)
                have hF := hF.trans (kb2_some hp _)
                exact hret _ _ _ _ _ _ hw dX7_copy_106 hF
          · skip
            have hF := hF.trans (if_neg c16)
            refine lv_aload_n hx hb dX7_copy_72 rfl (lv_at hl 2 rfl) ?_
            refine lv_iconst (v := 5) hx hb dX7_copy_73 (by decide) ?_
            have hs36 : g_X7_found v 5 ≠ none := fun q => hs (hF.trans (kb2_n q _))
            refine km_cI (As := [.int 5]) (rest := []) (n := 1) (q := (RX7, TX7, 9)) (ci := 7) (t := 0) (i := 0) ⟨hx, hb, hml, hown, hts⟩ (d_X7_found l E Z v 5 hs36) gX7_copy_X7_found rfl hV_X7_found ⟨Nat.le_of_ble_eq_true rfl, Nat.le_of_ble_eq_true rfl⟩ hK hw (by decide) (by decide) rfl rfl rfl hl.1 rfl (Nat.le_of_ble_eq_true rfl) dX7_copy_74 rfl rfl (fun r37 v38 H locs hp hw => ?_)
            have hF := hF.trans (kb2_some hp _)
            exact hret _ _ _ _ _ _ hw dX7_copy_77 hF
        · skip
          have hF := hF.trans (if_pos c15)
          refine lv_aload_n hx hb dX7_copy_53 rfl (lv_at hl 2 rfl) ?_
          refine lv_iconst (v := 1) hx hb dX7_copy_54 (by decide) ?_
          have hs39 : g_X7_found v 1 ≠ none := fun q => hs (hF.trans (kb2_n q _))
          refine km_cI (As := [.int 1]) (rest := []) (n := 1) (q := (RX7, TX7, 9)) (ci := 7) (t := 0) (i := 0) ⟨hx, hb, hml, hown, hts⟩ (d_X7_found l E Z v 1 hs39) gX7_copy_X7_found rfl hV_X7_found ⟨Nat.le_of_ble_eq_true rfl, Nat.le_of_ble_eq_true rfl⟩ hK hw (by decide) (by decide) rfl rfl rfl hl.1 rfl (Nat.le_of_ble_eq_true rfl) dX7_copy_55 rfl rfl (fun r40 v41 H locs hp hw => ?_)
          have hF := hF.trans (kb2_some hp _)
          exact hret _ _ _ _ _ _ hw dX7_copy_58 hF
    · skip
      have hF := hF.trans (if_pos c8)
      refine lv_ldc (v := (-1000001)) hx hb hown (hts (.constant RX7 59 (-1000001)) ow_X7_copy_59) dX7_copy_16 ?_
      exact hret _ _ _ _ _ _ hw dX7_copy_18 hF
abbrev rmX7_drop : Room := { frames := 1, cells := 0, slots := 0, locals := 21 }
def g_X7_drop (v : Mm) (a1 : Int32) : Option (Int32 × Mm) := Option.bind (g_X7_isRow v a1) (fun r2 => if r2 = 0 then (some ((-1000001), v)) else (if a1 < 0 ∨ 8 ≤ Int32.toNatClampNeg a1 then none else (if v 2 ((Int32.toNatClampNeg a1)) 1 = (-1) then (kb2 (g_X7_found v 1) (fun r14 v15 => some (r14, v15))) else (if a1 < 0 ∨ 8 ≤ Int32.toNatClampNeg a1 then none else (Option.bind (some (up3 v 2 ((Int32.toNatClampNeg a1)) 1 ((-1)))) (fun v8 => if a1 < 0 ∨ 8 ≤ Int32.toNatClampNeg a1 then none else (kb2 (g_X7_unfound v8 (v8 2 ((Int32.toNatClampNeg a1)) 2)) (fun r11 v12 => some (r11, v12)))))))))
set_option maxHeartbeats 4000000 in
set_option maxRecDepth 100000 in
theorem d_X7_drop (l : Launch) (E : kq_T) (Z : km_Z) (v : Mm) (a1 : Int32) (hs : g_X7_drop v a1 ≠ none) : km_I l E Z cntX yX7_drop wsX7_drop rmX7_drop [.ref (Z.1 0 0), .int a1] v (fun r v1 => g_X7_drop v a1 = some (r, v1)) := by
  refine km_goI (cc := cX7_drop) (maxL := 2) (by decide) rfl (Nat.le_of_ble_eq_true rfl) rfl rfl rfl ?_
  intro p e s m below meth c A ls Q C hK hw hl hret
  obtain ⟨hx, hb, hml, hown, hts, -, -, -⟩ := C
  have hown : s.vm.findClass RX7 = some m.cls := hown
  have hl : lv_has ls 2 [(0, .ref (Z.1 0 0)), (1, .int a1)] := hl
  have hF := g_X7_drop.eq_1 v a1
  refine lv_aload_n hx hb dX7_drop_0 rfl (lv_at hl 0 rfl) ?_
  refine lv_iload_n hx hb dX7_drop_1 rfl (lv_at hl 1 rfl) ?_
  have hs1 : g_X7_isRow v a1 ≠ none := fun q => hs (hF.trans (kb_n q _))
  refine km_cI (As := [.int a1]) (rest := []) (n := 1) (q := (RX7, TX7, 9)) (ci := 7) (t := 0) (i := 0) ⟨hx, hb, hml, hown, hts⟩ (d_X7_isRow l E Z v a1 hs1) gX7_drop_X7_isRow rfl hV_X7_isRow ⟨Nat.le_of_ble_eq_true rfl, Nat.le_of_ble_eq_true rfl⟩ hK hw (by decide) (by decide) rfl rfl rfl hl.1 rfl (Nat.le_of_ble_eq_true rfl) dX7_drop_2 rfl rfl (fun r2 v3 H locs hp hw => ?_)
  obtain ⟨hp, hzr2⟩ := hp
  obtain ⟨hp, rfl⟩ := hp
  have hF := hF.trans (kb_some hp _)
  refine lv_if_ne (tgt := 11) hx hb dX7_drop_5 (by decide) (fun c4 => ?_) (fun c4 => ?_)
  · skip
    have hF := hF.trans (if_neg c4)
    refine lv_aload_n hx hb dX7_drop_11 rfl (lv_at hl 0 rfl) ?_
    refine km_get (ci := 7) (C := RX7) (T := TX7) (N := 9) (t := 0) (i := 0) hx hb hts fi_X7_drop_X7 hown hK hw (by decide) (by decide) rfl rfl 0 (by decide) (hts (.fieldLink RX7 11 "WrongWord" "rows" "[LWrongWord$Row;") ow_X7_drop_11) rfl dX7_drop_12 ?_
    refine lv_iload_n hx hb dX7_drop_15 rfl (lv_at hl 1 rfl) ?_
    have hb5 : ¬ (a1 < 0 ∨ 8 ≤ Int32.toNatClampNeg a1) := fun q => hs (hF.trans (if_pos q))
    have hF := hF.trans (if_neg hb5)
    refine km_rows hx hb hK hw (by decide) hb5 dX7_drop_16 ?_
    refine km_get (ci := 5) (C := RX5) (T := TX5) (N := 3) (t := 2) (i := (Int32.toNatClampNeg a1)) hx hb hts fi_X7_drop_X5 hown hK hw (by decide) (Nat.not_le.mp fun h9 => hb5 (Or.inr h9)) rfl rfl 1 (by decide) (hts (.fieldLink RX7 78 "WrongWord$Row" "lane" "I") ow_X7_drop_78) rfl dX7_drop_17 ?_
    refine lv_iconst (v := (-1)) hx hb dX7_drop_20 (by decide) ?_
    refine lv_icmp_ne (tgt := 30) hx hb dX7_drop_21 (by decide) (fun c6 => ?_) (fun c6 => ?_)
    · skip
      have hF := hF.trans (if_neg c6)
      refine lv_aload_n hx hb dX7_drop_30 rfl (lv_at hl 0 rfl) ?_
      refine km_get (ci := 7) (C := RX7) (T := TX7) (N := 9) (t := 0) (i := 0) hx hb hts fi_X7_drop_X7 hown hK hw (by decide) (by decide) rfl rfl 0 (by decide) (hts (.fieldLink RX7 11 "WrongWord" "rows" "[LWrongWord$Row;") ow_X7_drop_11) rfl dX7_drop_31 ?_
      refine lv_iload_n hx hb dX7_drop_34 rfl (lv_at hl 1 rfl) ?_
      have hb7 : ¬ (a1 < 0 ∨ 8 ≤ Int32.toNatClampNeg a1) := fun q => hs (hF.trans (if_pos q))
      have hF := hF.trans (if_neg hb7)
      refine km_rows hx hb hK hw (by decide) hb7 dX7_drop_35 ?_
      refine lv_iconst (v := (-1)) hx hb dX7_drop_36 (by decide) ?_
      refine km_put (ci := 5) (C := RX5) (T := TX5) (N := 3) (t := 2) (i := (Int32.toNatClampNeg a1)) hx hb hts fi_X7_drop_X5 tyX5 tyX5_ok nmX5 hown hK hw (by decide) (Nat.not_le.mp fun h9 => hb7 (Or.inr h9)) rfl rfl 1 (by decide) (hts (.fieldLink RX7 78 "WrongWord$Row" "lane" "I") ow_X7_drop_78) rfl (by decide +kernel) (Nat.le_of_ble_eq_true rfl) rfl dX7_drop_37 (fun H locs hw => ?_)
      obtain ⟨v8, ev8⟩ : ∃ z, z = up3 v 2 ((Int32.toNatClampNeg a1)) 1 ((-1)) := ⟨_, rfl⟩
      rw [← ev8] at hw
      have hF := hF.trans (kb_some (congrArg some ev8.symm) _)
      refine lv_aload_n hx hb dX7_drop_40 rfl (lv_at hl 0 rfl) ?_
      refine lv_aload_n hx hb dX7_drop_41 rfl (lv_at hl 0 rfl) ?_
      refine km_get (ci := 7) (C := RX7) (T := TX7) (N := 9) (t := 0) (i := 0) hx hb hts fi_X7_drop_X7 hown hK hw (by decide) (by decide) rfl rfl 0 (by decide) (hts (.fieldLink RX7 11 "WrongWord" "rows" "[LWrongWord$Row;") ow_X7_drop_11) rfl dX7_drop_42 ?_
      refine lv_iload_n hx hb dX7_drop_45 rfl (lv_at hl 1 rfl) ?_
      have hb9 : ¬ (a1 < 0 ∨ 8 ≤ Int32.toNatClampNeg a1) := fun q => hs (hF.trans (if_pos q))
      have hF := hF.trans (if_neg hb9)
      refine km_rows hx hb hK hw (by decide) hb9 dX7_drop_46 ?_
      refine km_get (ci := 5) (C := RX5) (T := TX5) (N := 3) (t := 2) (i := (Int32.toNatClampNeg a1)) hx hb hts fi_X7_drop_X5 hown hK hw (by decide) (Nat.not_le.mp fun h9 => hb9 (Or.inr h9)) rfl rfl 2 (by decide) (hts (.fieldLink RX7 96 "WrongWord$Row" "size" "I") ow_X7_drop_96) rfl dX7_drop_47 ?_
      have hs10 : g_X7_unfound v8 (v8 2 ((Int32.toNatClampNeg a1)) 2) ≠ none := fun q => hs (hF.trans (kb2_n q _))
      refine km_cI (As := [.int (v8 2 ((Int32.toNatClampNeg a1)) 2)]) (rest := []) (n := 1) (q := (RX7, TX7, 9)) (ci := 7) (t := 0) (i := 0) ⟨hx, hb, hml, hown, hts⟩ (d_X7_unfound l E Z v8 (v8 2 ((Int32.toNatClampNeg a1)) 2) hs10) gX7_drop_X7_unfound rfl hV_X7_unfound ⟨Nat.le_of_ble_eq_true rfl, Nat.le_of_ble_eq_true rfl⟩ hK hw (by decide) (by decide) rfl rfl rfl hl.1 rfl (Nat.le_of_ble_eq_true rfl) dX7_drop_50 rfl rfl (fun r11 v12 H locs hp hw => ?_)
      have hF := hF.trans (kb2_some hp _)
      exact hret _ _ _ _ _ _ hw dX7_drop_53 hF
    · skip
      have hF := hF.trans (if_pos c6)
      refine lv_aload_n hx hb dX7_drop_24 rfl (lv_at hl 0 rfl) ?_
      refine lv_iconst (v := 1) hx hb dX7_drop_25 (by decide) ?_
      have hs13 : g_X7_found v 1 ≠ none := fun q => hs (hF.trans (kb2_n q _))
      refine km_cI (As := [.int 1]) (rest := []) (n := 1) (q := (RX7, TX7, 9)) (ci := 7) (t := 0) (i := 0) ⟨hx, hb, hml, hown, hts⟩ (d_X7_found l E Z v 1 hs13) gX7_drop_X7_found rfl hV_X7_found ⟨Nat.le_of_ble_eq_true rfl, Nat.le_of_ble_eq_true rfl⟩ hK hw (by decide) (by decide) rfl rfl rfl hl.1 rfl (Nat.le_of_ble_eq_true rfl) dX7_drop_26 rfl rfl (fun r14 v15 H locs hp hw => ?_)
      have hF := hF.trans (kb2_some hp _)
      exact hret _ _ _ _ _ _ hw dX7_drop_29 hF
  · skip
    have hF := hF.trans (if_pos c4)
    refine lv_ldc (v := (-1000001)) hx hb hown (hts (.constant RX7 59 (-1000001)) ow_X7_drop_59) dX7_drop_8 ?_
    exact hret _ _ _ _ _ _ hw dX7_drop_10 hF
abbrev rmX7_feed : Room := { frames := 1, cells := 0, slots := 0, locals := 21 }
def g_X7_feed (v : Mm) (a1 : Int32) : Option (Int32 × Mm) := if a1 < 0 then (some ((-1000001), v)) else (if a1 ≤ 255 then (kb2 (g_X6_append v a1) (fun r4 v5 => if r4 = 0 then (some ((-1000003), v5)) else (some (v5 4 0 2, v5)))) else (some ((-1000001), v)))
set_option maxHeartbeats 4000000 in
set_option maxRecDepth 100000 in
theorem d_X7_feed (l : Launch) (E : kq_T) (Z : km_Z) (v : Mm) (a1 : Int32) (hs : g_X7_feed v a1 ≠ none) : km_I l E Z cntX yX7_feed wsX7_feed rmX7_feed [.ref (Z.1 0 0), .int a1] v (fun r v1 => g_X7_feed v a1 = some (r, v1)) := by
  refine km_goI (cc := cX7_feed) (maxL := 2) (by decide) rfl (Nat.le_of_ble_eq_true rfl) rfl rfl rfl ?_
  intro p e s m below meth c A ls Q C hK hw hl hret
  obtain ⟨hx, hb, hml, hown, hts, -, -, -⟩ := C
  have hown : s.vm.findClass RX7 = some m.cls := hown
  have hl : lv_has ls 2 [(0, .ref (Z.1 0 0)), (1, .int a1)] := hl
  have hF := g_X7_feed.eq_1 v a1
  refine lv_iload_n hx hb dX7_feed_0 rfl (lv_at hl 1 rfl) ?_
  refine lv_if_lt (tgt := 11) hx hb dX7_feed_1 (by decide) (fun c1 => ?_) (fun c1 => ?_)
  · skip
    have hF := hF.trans (if_pos c1)
    refine lv_ldc (v := (-1000001)) hx hb hown (hts (.constant RX7 59 (-1000001)) ow_X7_feed_59) dX7_feed_11 ?_
    exact hret _ _ _ _ _ _ hw dX7_feed_13 hF
  · skip
    have hF := hF.trans (if_neg c1)
    refine lv_iload_n hx hb dX7_feed_4 rfl (lv_at hl 1 rfl) ?_
    refine lv_sipush (v := 255) hx hb dX7_feed_5 (by decide) ?_
    refine lv_icmp_le (tgt := 14) hx hb dX7_feed_8 (by decide) (fun c2 => ?_) (fun c2 => ?_)
    · skip
      have hF := hF.trans (if_pos c2)
      refine lv_aload_n hx hb dX7_feed_14 rfl (lv_at hl 0 rfl) ?_
      refine km_get (ci := 7) (C := RX7) (T := TX7) (N := 9) (t := 0) (i := 0) hx hb hts fi_X7_feed_X7 hown hK hw (by decide) (by decide) rfl rfl 1 (by decide) (hts (.fieldLink RX7 18 "WrongWord" "tape" "LWrongWord$Tape;") ow_X7_feed_18) rfl dX7_feed_15 ?_
      refine lv_iload_n hx hb dX7_feed_18 rfl (lv_at hl 1 rfl) ?_
      have hs3 : g_X6_append v a1 ≠ none := fun q => hs (hF.trans (kb2_n q _))
      refine km_cI (As := [.int a1]) (rest := []) (n := 1) (q := (RX6, TX6, 7)) (ci := 6) (t := 4) (i := 0) ⟨hx, hb, hml, hown, hts⟩ (d_X6_append l E Z v a1 hs3) gX7_feed_X6_append rfl hV_X6_append ⟨Nat.le_of_ble_eq_true rfl, Nat.le_of_ble_eq_true rfl⟩ hK hw (by decide) (by decide) rfl rfl rfl hl.1 rfl (Nat.le_of_ble_eq_true rfl) dX7_feed_19 rfl rfl (fun r4 v5 H locs hp hw => ?_)
      obtain ⟨hp, hzr4⟩ := hp
      have hF := hF.trans (kb2_some hp _)
      refine lv_if_eq (tgt := 35) hx hb dX7_feed_22 (by decide) (fun c6 => ?_) (fun c6 => ?_)
      · skip
        have hF := hF.trans (if_pos c6)
        refine lv_ldc (v := (-1000003)) hx hb hown (hts (.constant RX7 105 (-1000003)) ow_X7_feed_105) dX7_feed_35 ?_
        exact hret _ _ _ _ _ _ hw dX7_feed_37 hF
      · skip
        have hF := hF.trans (if_neg c6)
        refine lv_aload_n hx hb dX7_feed_25 rfl (lv_at hl 0 rfl) ?_
        refine km_get (ci := 7) (C := RX7) (T := TX7) (N := 9) (t := 0) (i := 0) hx hb hts fi_X7_feed_X7 hown hK hw (by decide) (by decide) rfl rfl 1 (by decide) (hts (.fieldLink RX7 18 "WrongWord" "tape" "LWrongWord$Tape;") ow_X7_feed_18) rfl dX7_feed_26 ?_
        refine km_get (ci := 6) (C := RX6) (T := TX6) (N := 7) (t := 4) (i := 0) hx hb hts fi_X7_feed_X6 hown hK hw (by decide) (by decide) rfl rfl 2 (by decide) (hts (.fieldLink RX7 102 "WrongWord$Tape" "length" "I") ow_X7_feed_102) rfl dX7_feed_29 ?_
        refine lv_goto (tgt := 37) hx hb dX7_feed_32 (by decide) ?_
        exact hret _ _ _ _ _ _ hw dX7_feed_37 hF
    · skip
      have hF := hF.trans (if_neg c2)
      refine lv_ldc (v := (-1000001)) hx hb hown (hts (.constant RX7 59 (-1000001)) ow_X7_feed_59) dX7_feed_11 ?_
      exact hret _ _ _ _ _ _ hw dX7_feed_13 hF
abbrev rmX7_gate : Room := { frames := 4, cells := 0, slots := 0, locals := 106 }
def g_X7_gate (v : Mm)  : Option (Int32 × Mm) := kb2 (g_X6_read v) (fun r2 v3 => Option.bind (some (up3 v3 4 0 2 0)) (fun v4 => if r2 = 0 then (Option.bind (some (up3 v4 0 0 7 (v4 4 0 3))) (fun v12 => some (((-1000100)) - (v12 4 0 4), v12))) else (Option.bind (g_X2_become v4 0 1) (fun v8 => Option.bind (g_X0_forget v8) (fun v11 => some (v11 6 0 6, v11))))))
set_option maxHeartbeats 4000000 in
set_option maxRecDepth 100000 in
theorem d_X7_gate (l : Launch) (E : kq_T) (Z : km_Z) (v : Mm) (hs : g_X7_gate v ≠ none) : km_I l E Z cntX yX7_gate wsX7_gate rmX7_gate [.ref (Z.1 0 0)] v (fun r v1 => g_X7_gate v = some (r, v1)) := by
  refine km_goI (cc := cX7_gate) (maxL := 2) (by decide) rfl (Nat.le_of_ble_eq_true rfl) rfl rfl rfl ?_
  intro p e s m below meth c A ls Q C hK hw hl hret
  obtain ⟨hx, hb, hml, hown, hts, -, -, -⟩ := C
  have hown : s.vm.findClass RX7 = some m.cls := hown
  have hl : lv_has ls 2 [(0, .ref (Z.1 0 0))] := hl
  have hF := g_X7_gate.eq_1 v 
  refine lv_aload_n hx hb dX7_gate_0 rfl (lv_at hl 0 rfl) ?_
  refine km_get (ci := 7) (C := RX7) (T := TX7) (N := 9) (t := 0) (i := 0) hx hb hts fi_X7_gate_X7 hown hK hw (by decide) (by decide) rfl rfl 1 (by decide) (hts (.fieldLink RX7 18 "WrongWord" "tape" "LWrongWord$Tape;") ow_X7_gate_18) rfl dX7_gate_1 ?_
  have hs1 : g_X6_read v ≠ none := fun q => hs (hF.trans (kb2_n q _))
  refine km_cI (As := []) (rest := []) (n := 0) (q := (RX6, TX6, 7)) (ci := 6) (t := 4) (i := 0) ⟨hx, hb, hml, hown, hts⟩ (d_X6_read l E Z v  hs1) gX7_gate_X6_read rfl hV_X6_read ⟨Nat.le_of_ble_eq_true rfl, Nat.le_of_ble_eq_true rfl⟩ hK hw (by decide) (by decide) rfl rfl rfl hl.1 rfl (Nat.le_of_ble_eq_true rfl) dX7_gate_4 rfl rfl (fun r2 v3 H locs hp hw => ?_)
  obtain ⟨hp, hzr2⟩ := hp
  have hF := hF.trans (kb2_some hp _)
  refine lv_istore_n (lv' := [(1, .int r2), (0, .ref (Z.1 0 0))]) hx hb dX7_gate_7 rfl hl (by decide) rfl (fun ls hl => ?_)
  refine lv_aload_n hx hb dX7_gate_8 rfl (lv_at hl 1 rfl) ?_
  refine km_get (ci := 7) (C := RX7) (T := TX7) (N := 9) (t := 0) (i := 0) hx hb hts fi_X7_gate_X7 hown hK hw (by decide) (by decide) rfl rfl 1 (by decide) (hts (.fieldLink RX7 18 "WrongWord" "tape" "LWrongWord$Tape;") ow_X7_gate_18) rfl dX7_gate_9 ?_
  refine lv_iconst (v := 0) hx hb dX7_gate_12 (by decide) ?_
  refine km_put (ci := 6) (C := RX6) (T := TX6) (N := 7) (t := 4) (i := 0) hx hb hts fi_X7_gate_X6 tyX6 tyX6_ok nmX6 hown hK hw (by decide) (by decide) rfl rfl 2 (by decide) (hts (.fieldLink RX7 102 "WrongWord$Tape" "length" "I") ow_X7_gate_102) rfl (by decide +kernel) (Nat.le_of_ble_eq_true rfl) rfl dX7_gate_13 (fun H locs hw => ?_)
  obtain ⟨v4, ev4⟩ : ∃ z, z = up3 v3 4 0 2 0 := ⟨_, rfl⟩
  rw [← ev4] at hw
  have hF := hF.trans (kb_some (congrArg some ev4.symm) _)
  refine lv_iload_n hx hb dX7_gate_16 rfl (lv_at hl 0 rfl) ?_
  refine lv_if_ne (tgt := 42) hx hb dX7_gate_17 (by decide) (fun c5 => ?_) (fun c5 => ?_)
  · skip
    have hF := hF.trans (if_neg c5)
    refine lv_aload_n hx hb dX7_gate_42 rfl (lv_at hl 1 rfl) ?_
    refine km_get (ci := 7) (C := RX7) (T := TX7) (N := 9) (t := 0) (i := 0) hx hb hts fi_X7_gate_X7 hown hK hw (by decide) (by decide) rfl rfl 2 (by decide) (hts (.fieldLink RX7 25 "WrongWord" "gate" "LWrongWord$Gate;") ow_X7_gate_25) rfl dX7_gate_43 ?_
    refine lv_aload_n hx hb dX7_gate_46 rfl (lv_at hl 1 rfl) ?_
    refine km_get (ci := 7) (C := RX7) (T := TX7) (N := 9) (t := 0) (i := 0) hx hb hts fi_X7_gate_X7 hown hK hw (by decide) (by decide) rfl rfl 1 (by decide) (hts (.fieldLink RX7 18 "WrongWord" "tape" "LWrongWord$Tape;") ow_X7_gate_18) rfl dX7_gate_47 ?_
    refine km_get (ci := 6) (C := RX6) (T := TX6) (N := 7) (t := 4) (i := 0) hx hb hts fi_X7_gate_X6 hown hK hw (by decide) (by decide) rfl rfl 1 (by decide) (hts (.fieldLink RX7 120 "WrongWord$Tape" "draft" "LWrongWord$Gate;") ow_X7_gate_120) rfl dX7_gate_50 ?_
    have hs6 : g_X2_become v4 0 1 ≠ none := fun q => hs (hF.trans (kb_n q _))
    refine km_cV (As := [.ref (Z.1 6 1)]) (rest := []) (n := 1) (q := (RX2, TX2, 8)) (ci := 2) (t := 6) (i := 0) ⟨hx, hb, hml, hown, hts⟩ (d_X2_become l E Z v4 0 (by decide) 1 (by decide) hs6) gX7_gate_X2_become rfl hV_X2_become ⟨Nat.le_of_ble_eq_true rfl, Nat.le_of_ble_eq_true rfl⟩ hK hw (by decide) (by decide) rfl rfl rfl hl.1 rfl (Nat.le_of_ble_eq_true rfl) dX7_gate_53 rfl rfl (fun v8 H locs hp hw => ?_)
    have hF := hF.trans (kb_some hp _)
    refine lv_aload_n hx hb dX7_gate_56 rfl (lv_at hl 1 rfl) ?_
    refine km_get (ci := 7) (C := RX7) (T := TX7) (N := 9) (t := 0) (i := 0) hx hb hts fi_X7_gate_X7 hown hK hw (by decide) (by decide) rfl rfl 3 (by decide) (hts (.fieldLink RX7 32 "WrongWord" "acts" "LWrongWord$Acts;") ow_X7_gate_32) rfl dX7_gate_57 ?_
    have hs9 : g_X0_forget v8 ≠ none := fun q => hs (hF.trans (kb_n q _))
    refine km_cV (As := []) (rest := []) (n := 0) (q := (RX0, TX0, 3)) (ci := 0) (t := 15) (i := 0) ⟨hx, hb, hml, hown, hts⟩ (d_X0_forget l E Z v8  hs9) gX7_gate_X0_forget rfl hV_X0_forget ⟨Nat.le_of_ble_eq_true rfl, Nat.le_of_ble_eq_true rfl⟩ hK hw (by decide) (by decide) rfl rfl rfl hl.1 rfl (Nat.le_of_ble_eq_true rfl) dX7_gate_60 rfl rfl (fun v11 H locs hp hw => ?_)
    have hF := hF.trans (kb_some hp _)
    refine lv_aload_n hx hb dX7_gate_63 rfl (lv_at hl 1 rfl) ?_
    refine km_get (ci := 7) (C := RX7) (T := TX7) (N := 9) (t := 0) (i := 0) hx hb hts fi_X7_gate_X7 hown hK hw (by decide) (by decide) rfl rfl 2 (by decide) (hts (.fieldLink RX7 25 "WrongWord" "gate" "LWrongWord$Gate;") ow_X7_gate_25) rfl dX7_gate_64 ?_
    refine km_get (ci := 2) (C := RX2) (T := TX2) (N := 8) (t := 6) (i := 0) hx hb hts fi_X7_gate_X2 hown hK hw (by decide) (by decide) rfl rfl 6 (by decide) (hts (.fieldLink RX7 130 "WrongWord$Gate" "words" "I") ow_X7_gate_130) rfl dX7_gate_67 ?_
    exact hret _ _ _ _ _ _ hw dX7_gate_70 hF
  · skip
    have hF := hF.trans (if_pos c5)
    refine lv_aload_n hx hb dX7_gate_20 rfl (lv_at hl 1 rfl) ?_
    refine lv_aload_n hx hb dX7_gate_21 rfl (lv_at hl 1 rfl) ?_
    refine km_get (ci := 7) (C := RX7) (T := TX7) (N := 9) (t := 0) (i := 0) hx hb hts fi_X7_gate_X7 hown hK hw (by decide) (by decide) rfl rfl 1 (by decide) (hts (.fieldLink RX7 18 "WrongWord" "tape" "LWrongWord$Tape;") ow_X7_gate_18) rfl dX7_gate_22 ?_
    refine km_get (ci := 6) (C := RX6) (T := TX6) (N := 7) (t := 4) (i := 0) hx hb hts fi_X7_gate_X6 hown hK hw (by decide) (by decide) rfl rfl 3 (by decide) (hts (.fieldLink RX7 110 "WrongWord$Tape" "fault" "I") ow_X7_gate_110) rfl dX7_gate_25 ?_
    refine km_put (ci := 7) (C := RX7) (T := TX7) (N := 9) (t := 0) (i := 0) hx hb hts fi_X7_gate_X7 tyX7 tyX7_ok nmX7 hown hK hw (by decide) (by decide) rfl rfl 7 (by decide) (hts (.fieldLink RX7 113 "WrongWord" "latestFault" "I") ow_X7_gate_113) rfl (by decide +kernel) (Nat.le_of_ble_eq_true rfl) rfl dX7_gate_28 (fun H locs hw => ?_)
    obtain ⟨v12, ev12⟩ : ∃ z, z = up3 v4 0 0 7 (v4 4 0 3) := ⟨_, rfl⟩
    rw [← ev12] at hw
    have hF := hF.trans (kb_some (congrArg some ev12.symm) _)
    refine lv_ldc (v := (-1000100)) hx hb hown (hts (.constant RX7 116 (-1000100)) ow_X7_gate_116) dX7_gate_31 ?_
    refine lv_aload_n hx hb dX7_gate_33 rfl (lv_at hl 1 rfl) ?_
    refine km_get (ci := 7) (C := RX7) (T := TX7) (N := 9) (t := 0) (i := 0) hx hb hts fi_X7_gate_X7 hown hK hw (by decide) (by decide) rfl rfl 1 (by decide) (hts (.fieldLink RX7 18 "WrongWord" "tape" "LWrongWord$Tape;") ow_X7_gate_18) rfl dX7_gate_34 ?_
    refine km_get (ci := 6) (C := RX6) (T := TX6) (N := 7) (t := 4) (i := 0) hx hb hts fi_X7_gate_X6 hown hK hw (by decide) (by decide) rfl rfl 4 (by decide) (hts (.fieldLink RX7 117 "WrongWord$Tape" "place" "I") ow_X7_gate_117) rfl dX7_gate_37 ?_
    refine lv_isub hx hb dX7_gate_40 ?_
    exact hret _ _ _ _ _ _ hw dX7_gate_41 hF
abbrev rmX7_fault : Room := { frames := 0, cells := 0, slots := 0, locals := 0 }
def g_X7_fault (v : Mm)  : Option (Int32) := some (v 0 0 7)
set_option maxHeartbeats 4000000 in
set_option maxRecDepth 100000 in
theorem d_X7_fault (l : Launch) (E : kq_T) (Z : km_Z) (v : Mm) (hs : g_X7_fault v ≠ none) : km_I l E Z cntX yX7_fault wsX7_fault rmX7_fault [.ref (Z.1 0 0)] v (fun r v1 => g_X7_fault v = some r ∧ v = v1) := by
  refine km_goI (cc := cX7_fault) (maxL := 1) (by decide) rfl (Nat.le_of_ble_eq_true rfl) rfl rfl rfl ?_
  intro p e s m below meth c A ls Q C hK hw hl hret
  obtain ⟨hx, hb, hml, hown, hts, -, -, -⟩ := C
  have hown : s.vm.findClass RX7 = some m.cls := hown
  have hl : lv_has ls 1 [(0, .ref (Z.1 0 0))] := hl
  have hF := g_X7_fault.eq_1 v 
  refine lv_aload_n hx hb dX7_fault_0 rfl (lv_at hl 0 rfl) ?_
  refine km_get (ci := 7) (C := RX7) (T := TX7) (N := 9) (t := 0) (i := 0) hx hb hts fi_X7_fault_X7 hown hK hw (by decide) (by decide) rfl rfl 7 (by decide) (hts (.fieldLink RX7 113 "WrongWord" "latestFault" "I") ow_X7_fault_113) rfl dX7_fault_1 ?_
  exact hret _ _ _ _ _ _ hw dX7_fault_4 ⟨hF, rfl⟩
abbrev rmX7_noGate : Room := { frames := 0, cells := 0, slots := 0, locals := 0 }
def g_X7_noGate (v : Mm)  : Option (Int32) := if v 6 0 6 = 0 then (some 1) else (some 0)
set_option maxHeartbeats 4000000 in
set_option maxRecDepth 100000 in
theorem d_X7_noGate (l : Launch) (E : kq_T) (Z : km_Z) (v : Mm) (hs : g_X7_noGate v ≠ none) : km_I l E Z cntX yX7_noGate wsX7_noGate rmX7_noGate [.ref (Z.1 0 0)] v (fun r v1 => (g_X7_noGate v = some r ∧ v = v1) ∧ (r = 0 ∨ r = 1)) := by
  refine km_goZ (cc := cX7_noGate) (maxL := 1) (post := fun r v1 => g_X7_noGate v = some r ∧ v = v1) (by decide) rfl (Nat.le_of_ble_eq_true rfl) rfl rfl rfl ?_
  intro p e s m below meth c A ls Q C hK hw hl hret
  obtain ⟨hx, hb, hml, hown, hts, -, -, -⟩ := C
  have hown : s.vm.findClass RX7 = some m.cls := hown
  have hl : lv_has ls 1 [(0, .ref (Z.1 0 0))] := hl
  have hF := g_X7_noGate.eq_1 v 
  refine lv_aload_n hx hb dX7_noGate_0 rfl (lv_at hl 0 rfl) ?_
  refine km_get (ci := 7) (C := RX7) (T := TX7) (N := 9) (t := 0) (i := 0) hx hb hts fi_X7_noGate_X7 hown hK hw (by decide) (by decide) rfl rfl 2 (by decide) (hts (.fieldLink RX7 25 "WrongWord" "gate" "LWrongWord$Gate;") ow_X7_noGate_25) rfl dX7_noGate_1 ?_
  refine km_get (ci := 2) (C := RX2) (T := TX2) (N := 8) (t := 6) (i := 0) hx hb hts fi_X7_noGate_X2 hown hK hw (by decide) (by decide) rfl rfl 6 (by decide) (hts (.fieldLink RX7 130 "WrongWord$Gate" "words" "I") ow_X7_noGate_130) rfl dX7_noGate_4 ?_
  refine lv_if_ne (tgt := 14) hx hb dX7_noGate_7 (by decide) (fun c1 => ?_) (fun c1 => ?_)
  · skip
    have hF := hF.trans (if_neg c1)
    refine lv_iconst (v := 0) hx hb dX7_noGate_14 (by decide) ?_
    exact hret _ _ _ _ _ _ hw dX7_noGate_15 (Or.inl rfl) ⟨hF, rfl⟩
  · skip
    have hF := hF.trans (if_pos c1)
    refine lv_iconst (v := 1) hx hb dX7_noGate_10 (by decide) ?_
    refine lv_goto (tgt := 15) hx hb dX7_noGate_11 (by decide) ?_
    exact hret _ _ _ _ _ _ hw dX7_noGate_15 (Or.inr rfl) ⟨hF, rfl⟩
abbrev rmX7_nights : Room := { frames := 3, cells := 0, slots := 0, locals := 106 }
def b_X7_nights_L47  (rec47 : Mm → Int32 → Option (Int32 × Mm)) (a1 : Int32) (w47 : Mm) (x2_47 : Int32) : Option (Int32 × Mm) := if a1 ≤ x2_47 then (Option.bind (g_X2_secretIn w47 0 0) (fun r10 => some (r10, w47))) else (Option.bind (g_X0_keep w47 0) (fun v14 => Option.bind (g_X4_goBy v14 0) (fun v17 => rec47 v17 (x2_47 + 1))))
def g_X7_nights_L47  (a1 : Int32) : Nat → Mm → Int32 → Option (Int32 × Mm)
  | 0 => fun _ _ => none
  | n + 1 => b_X7_nights_L47  (g_X7_nights_L47  a1 n) a1
def g_X7_nights (v : Mm) (a1 : Int32) : Option (Int32 × Mm) := Option.bind (g_X7_noGate v) (fun r2 => if r2 = 0 then (if a1 < 1 then (some ((-1000001), v)) else (if a1 ≤ 24 then (if (v 10 0 4) + a1 ≤ 999 then (g_X7_nights_L47  a1 2000 v 0) else (some ((-1000003), v))) else (some ((-1000001), v)))) else (some ((-1000002), v)))
set_option maxHeartbeats 4000000 in
set_option maxRecDepth 100000 in
theorem d_X7_nights (l : Launch) (E : kq_T) (Z : km_Z) (v : Mm) (a1 : Int32) (hs : g_X7_nights v a1 ≠ none) : km_I l E Z cntX yX7_nights wsX7_nights rmX7_nights [.ref (Z.1 0 0), .int a1] v (fun r v1 => g_X7_nights v a1 = some (r, v1)) := by
  refine km_goI (cc := cX7_nights) (maxL := 3) (by decide) rfl (Nat.le_of_ble_eq_true rfl) rfl rfl rfl ?_
  intro p e s m below meth c A ls Q C hK hw hl hret
  obtain ⟨hx, hb, hml, hown, hts, -, -, -⟩ := C
  have hown : s.vm.findClass RX7 = some m.cls := hown
  have hl : lv_has ls 3 [(0, .ref (Z.1 0 0)), (1, .int a1)] := hl
  have hF := g_X7_nights.eq_1 v a1
  have loop47 : ∀ (n47 : Nat) (w47 : Mm) (x2_47 : Int32) (H : Heap) (locs : List Loc) (ls : Array Slot), g_X7_nights v a1 = g_X7_nights_L47  a1 n47 w47 x2_47 → km_w E A s.heap [] Z cntX w47 H locs → lv_has ls 3 [(0, .ref (Z.1 0 0)), (1, .int a1), (2, .int x2_47)] → W p l e rmX7_nights s m [.ref (Z.1 0 0), .int a1].toArray below meth c H locs 0 0 Q (F0 m 47 ls []) := by
    intro n47
    induction n47 with
    | zero => intro w47 x2_47 H locs ls hF hw hl; exact absurd (show g_X7_nights v a1 = none from hF) hs
    | succ n47 ih47 =>
      intro w47 x2_47 H locs ls hF hw hl
      have hF := hF.trans (b_X7_nights_L47.eq_1  (g_X7_nights_L47  a1 n47) a1 w47 x2_47)
      refine lv_iload_n hx hb dX7_nights_47 rfl (lv_at hl 2 rfl) ?_
      refine lv_iload_n hx hb dX7_nights_48 rfl (lv_at hl 1 rfl) ?_
      refine lv_icmp_ge (tgt := 82) hx hb dX7_nights_49 (by decide) (fun c1 => ?_) (fun c1 => ?_)
      · skip
        have hF := hF.trans (if_pos c1)
        refine lv_aload_n hx hb dX7_nights_82 rfl (lv_at hl 0 rfl) ?_
        refine km_get (ci := 7) (C := RX7) (T := TX7) (N := 9) (t := 0) (i := 0) hx hb hts fi_X7_nights_X7 hown hK hw (by decide) (by decide) rfl rfl 2 (by decide) (hts (.fieldLink RX7 25 "WrongWord" "gate" "LWrongWord$Gate;") ow_X7_nights_25) rfl dX7_nights_83 ?_
        refine lv_iconst (v := 0) hx hb dX7_nights_86 (by decide) ?_
        have hs2 : g_X2_secretIn w47 0 0 ≠ none := fun q => hs (hF.trans (kb_n q _))
        refine km_cI (As := [.int 0]) (rest := []) (n := 1) (q := (RX2, TX2, 8)) (ci := 2) (t := 6) (i := 0) ⟨hx, hb, hml, hown, hts⟩ (d_X2_secretIn l E Z w47 0 (by decide) 0 hs2) gX7_nights_X2_secretIn rfl hV_X2_secretIn ⟨Nat.le_of_ble_eq_true rfl, Nat.le_of_ble_eq_true rfl⟩ hK hw (by decide) (by decide) rfl rfl rfl hl.1 rfl (Nat.le_of_ble_eq_true rfl) dX7_nights_87 rfl rfl (fun r3 v4 H locs hp hw => ?_)
        obtain ⟨hp, rfl⟩ := hp
        have hF := hF.trans (kb_some hp _)
        exact hret _ _ _ _ _ _ hw dX7_nights_90 hF
      · skip
        have hF := hF.trans (if_neg c1)
        refine lv_aload_n hx hb dX7_nights_52 rfl (lv_at hl 0 rfl) ?_
        refine km_get (ci := 7) (C := RX7) (T := TX7) (N := 9) (t := 0) (i := 0) hx hb hts fi_X7_nights_X7 hown hK hw (by decide) (by decide) rfl rfl 3 (by decide) (hts (.fieldLink RX7 32 "WrongWord" "acts" "LWrongWord$Acts;") ow_X7_nights_32) rfl dX7_nights_53 ?_
        refine lv_aload_n hx hb dX7_nights_56 rfl (lv_at hl 0 rfl) ?_
        refine km_get (ci := 7) (C := RX7) (T := TX7) (N := 9) (t := 0) (i := 0) hx hb hts fi_X7_nights_X7 hown hK hw (by decide) (by decide) rfl rfl 2 (by decide) (hts (.fieldLink RX7 25 "WrongWord" "gate" "LWrongWord$Gate;") ow_X7_nights_25) rfl dX7_nights_57 ?_
        refine km_get (ci := 2) (C := RX2) (T := TX2) (N := 8) (t := 6) (i := 0) hx hb hts fi_X7_nights_X2 hown hK hw (by decide) (by decide) rfl rfl 3 (by decide) (hts (.fieldLink RX7 137 "WrongWord$Gate" "now" "LWrongWord$Moment;") ow_X7_nights_137) rfl dX7_nights_60 ?_
        have hs5 : g_X0_keep w47 0 ≠ none := fun q => hs (hF.trans (kb_n q _))
        refine km_cV (As := [.ref (Z.1 10 0)]) (rest := []) (n := 1) (q := (RX0, TX0, 3)) (ci := 0) (t := 15) (i := 0) ⟨hx, hb, hml, hown, hts⟩ (d_X0_keep l E Z w47 0 (by decide) hs5) gX7_nights_X0_keep rfl hV_X0_keep ⟨Nat.le_of_ble_eq_true rfl, Nat.le_of_ble_eq_true rfl⟩ hK hw (by decide) (by decide) rfl rfl rfl hl.1 rfl (Nat.le_of_ble_eq_true rfl) dX7_nights_63 rfl rfl (fun v7 H locs hp hw => ?_)
        have hF := hF.trans (kb_some hp _)
        refine lv_aload_n hx hb dX7_nights_66 rfl (lv_at hl 0 rfl) ?_
        refine km_get (ci := 7) (C := RX7) (T := TX7) (N := 9) (t := 0) (i := 0) hx hb hts fi_X7_nights_X7 hown hK hw (by decide) (by decide) rfl rfl 2 (by decide) (hts (.fieldLink RX7 25 "WrongWord" "gate" "LWrongWord$Gate;") ow_X7_nights_25) rfl dX7_nights_67 ?_
        refine km_get (ci := 2) (C := RX2) (T := TX2) (N := 8) (t := 6) (i := 0) hx hb hts fi_X7_nights_X2 hown hK hw (by decide) (by decide) rfl rfl 3 (by decide) (hts (.fieldLink RX7 137 "WrongWord$Gate" "now" "LWrongWord$Moment;") ow_X7_nights_137) rfl dX7_nights_70 ?_
        have hs8 : g_X4_goBy v7 0 ≠ none := fun q => hs (hF.trans (kb_n q _))
        refine km_cV (As := []) (rest := []) (n := 0) (q := (RX4, TX4, 8)) (ci := 4) (t := 10) (i := 0) ⟨hx, hb, hml, hown, hts⟩ (d_X4_goBy l E Z v7 0 (by decide) hs8) gX7_nights_X4_goBy rfl hV_X4_goBy ⟨Nat.le_of_ble_eq_true rfl, Nat.le_of_ble_eq_true rfl⟩ hK hw (by decide) (by decide) rfl rfl rfl hl.1 rfl (Nat.le_of_ble_eq_true rfl) dX7_nights_73 rfl rfl (fun v10 H locs hp hw => ?_)
        have hF := hF.trans (kb_some hp _)
        refine lv_iinc (v := x2_47 + 1) (lv' := [(2, .int (x2_47 + 1)), (0, .ref (Z.1 0 0)), (1, .int a1)]) hx hb dX7_nights_76 hl (k := 2) rfl rfl (by decide) rfl (fun ls hl => ?_)
        refine lv_goto (tgt := 47) hx hb dX7_nights_79 (by decide) ?_
        have hl := lv_sub (l' := [(0, .ref (Z.1 0 0)), (1, .int a1), (2, .int (x2_47 + 1))]) hl [1, 2, 0] rfl
        exact ih47 v10 (x2_47 + 1) _ _ _ hF hw hl
  refine lv_aload_n hx hb dX7_nights_0 rfl (lv_at hl 0 rfl) ?_
  have hs11 : g_X7_noGate v ≠ none := fun q => hs (hF.trans (kb_n q _))
  refine km_cI (As := []) (rest := []) (n := 0) (q := (RX7, TX7, 9)) (ci := 7) (t := 0) (i := 0) ⟨hx, hb, hml, hown, hts⟩ (d_X7_noGate l E Z v  hs11) gX7_nights_X7_noGate rfl hV_X7_noGate ⟨Nat.le_of_ble_eq_true rfl, Nat.le_of_ble_eq_true rfl⟩ hK hw (by decide) (by decide) rfl rfl rfl hl.1 rfl (Nat.le_of_ble_eq_true rfl) dX7_nights_1 rfl rfl (fun r12 v13 H locs hp hw => ?_)
  obtain ⟨hp, hzr12⟩ := hp
  obtain ⟨hp, rfl⟩ := hp
  have hF := hF.trans (kb_some hp _)
  refine lv_if_eq (tgt := 10) hx hb dX7_nights_4 (by decide) (fun c14 => ?_) (fun c14 => ?_)
  · skip
    have hF := hF.trans (if_pos c14)
    refine lv_iload_n hx hb dX7_nights_10 rfl (lv_at hl 1 rfl) ?_
    refine lv_iconst (v := 1) hx hb dX7_nights_11 (by decide) ?_
    refine lv_icmp_lt (tgt := 21) hx hb dX7_nights_12 (by decide) (fun c15 => ?_) (fun c15 => ?_)
    · skip
      have hF := hF.trans (if_pos c15)
      refine lv_ldc (v := (-1000001)) hx hb hown (hts (.constant RX7 59 (-1000001)) ow_X7_nights_59) dX7_nights_21 ?_
      exact hret _ _ _ _ _ _ hw dX7_nights_23 hF
    · skip
      have hF := hF.trans (if_neg c15)
      refine lv_iload_n hx hb dX7_nights_15 rfl (lv_at hl 1 rfl) ?_
      refine lv_bipush (v := 24) hx hb dX7_nights_16 (by decide) ?_
      refine lv_icmp_le (tgt := 24) hx hb dX7_nights_18 (by decide) (fun c16 => ?_) (fun c16 => ?_)
      · skip
        have hF := hF.trans (if_pos c16)
        refine lv_aload_n hx hb dX7_nights_24 rfl (lv_at hl 0 rfl) ?_
        refine km_get (ci := 7) (C := RX7) (T := TX7) (N := 9) (t := 0) (i := 0) hx hb hts fi_X7_nights_X7 hown hK hw (by decide) (by decide) rfl rfl 2 (by decide) (hts (.fieldLink RX7 25 "WrongWord" "gate" "LWrongWord$Gate;") ow_X7_nights_25) rfl dX7_nights_25 ?_
        refine km_get (ci := 2) (C := RX2) (T := TX2) (N := 8) (t := 6) (i := 0) hx hb hts fi_X7_nights_X2 hown hK hw (by decide) (by decide) rfl rfl 3 (by decide) (hts (.fieldLink RX7 137 "WrongWord$Gate" "now" "LWrongWord$Moment;") ow_X7_nights_137) rfl dX7_nights_28 ?_
        refine km_get (ci := 4) (C := RX4) (T := TX4) (N := 8) (t := 10) (i := 0) hx hb hts fi_X7_nights_X4 hown hK hw (by decide) (by decide) rfl rfl 4 (by decide) (hts (.fieldLink RX7 141 "WrongWord$Moment" "night" "I") ow_X7_nights_141) rfl dX7_nights_31 ?_
        refine lv_iload_n hx hb dX7_nights_34 rfl (lv_at hl 1 rfl) ?_
        refine lv_iadd hx hb dX7_nights_35 ?_
        refine lv_sipush (v := 999) hx hb dX7_nights_36 (by decide) ?_
        refine lv_icmp_le (tgt := 45) hx hb dX7_nights_39 (by decide) (fun c17 => ?_) (fun c17 => ?_)
        · skip
          have hF := hF.trans (if_pos c17)
          refine lv_iconst (v := 0) hx hb dX7_nights_45 (by decide) ?_
          refine lv_istore_n (lv' := [(2, .int 0), (0, .ref (Z.1 0 0)), (1, .int a1)]) hx hb dX7_nights_46 rfl hl (by decide) rfl (fun ls hl => ?_)
          have hl := lv_sub (l' := [(0, .ref (Z.1 0 0)), (1, .int a1), (2, .int 0)]) hl [1, 2, 0] rfl
          exact loop47 2000 v 0 _ _ _ hF hw hl
        · skip
          have hF := hF.trans (if_neg c17)
          refine lv_ldc (v := (-1000003)) hx hb hown (hts (.constant RX7 105 (-1000003)) ow_X7_nights_105) dX7_nights_42 ?_
          exact hret _ _ _ _ _ _ hw dX7_nights_44 hF
      · skip
        have hF := hF.trans (if_neg c16)
        refine lv_ldc (v := (-1000001)) hx hb hown (hts (.constant RX7 59 (-1000001)) ow_X7_nights_59) dX7_nights_21 ?_
        exact hret _ _ _ _ _ _ hw dX7_nights_23 hF
  · skip
    have hF := hF.trans (if_neg c14)
    refine lv_ldc (v := (-1000002)) hx hb hown (hts (.constant RX7 136 (-1000002)) ow_X7_nights_136) dX7_nights_7 ?_
    exact hret _ _ _ _ _ _ hw dX7_nights_9 hF
abbrev rmX7_isWord : Room := { frames := 0, cells := 0, slots := 0, locals := 0 }
def g_X7_isWord (v : Mm) (a1 : Int32) : Option (Int32) := if a1 < 0 then (some 0) else (if v 6 0 6 ≤ a1 then (some 0) else (some 1))
set_option maxHeartbeats 4000000 in
set_option maxRecDepth 100000 in
theorem d_X7_isWord (l : Launch) (E : kq_T) (Z : km_Z) (v : Mm) (a1 : Int32) (hs : g_X7_isWord v a1 ≠ none) : km_I l E Z cntX yX7_isWord wsX7_isWord rmX7_isWord [.ref (Z.1 0 0), .int a1] v (fun r v1 => (g_X7_isWord v a1 = some r ∧ v = v1) ∧ (r = 0 ∨ r = 1)) := by
  refine km_goZ (cc := cX7_isWord) (maxL := 2) (post := fun r v1 => g_X7_isWord v a1 = some r ∧ v = v1) (by decide) rfl (Nat.le_of_ble_eq_true rfl) rfl rfl rfl ?_
  intro p e s m below meth c A ls Q C hK hw hl hret
  obtain ⟨hx, hb, hml, hown, hts, -, -, -⟩ := C
  have hown : s.vm.findClass RX7 = some m.cls := hown
  have hl : lv_has ls 2 [(0, .ref (Z.1 0 0)), (1, .int a1)] := hl
  have hF := g_X7_isWord.eq_1 v a1
  refine lv_iload_n hx hb dX7_isWord_0 rfl (lv_at hl 1 rfl) ?_
  refine lv_if_lt (tgt := 19) hx hb dX7_isWord_1 (by decide) (fun c1 => ?_) (fun c1 => ?_)
  · skip
    have hF := hF.trans (if_pos c1)
    refine lv_iconst (v := 0) hx hb dX7_isWord_19 (by decide) ?_
    exact hret _ _ _ _ _ _ hw dX7_isWord_20 (Or.inl rfl) ⟨hF, rfl⟩
  · skip
    have hF := hF.trans (if_neg c1)
    refine lv_iload_n hx hb dX7_isWord_4 rfl (lv_at hl 1 rfl) ?_
    refine lv_aload_n hx hb dX7_isWord_5 rfl (lv_at hl 0 rfl) ?_
    refine km_get (ci := 7) (C := RX7) (T := TX7) (N := 9) (t := 0) (i := 0) hx hb hts fi_X7_isWord_X7 hown hK hw (by decide) (by decide) rfl rfl 2 (by decide) (hts (.fieldLink RX7 25 "WrongWord" "gate" "LWrongWord$Gate;") ow_X7_isWord_25) rfl dX7_isWord_6 ?_
    refine km_get (ci := 2) (C := RX2) (T := TX2) (N := 8) (t := 6) (i := 0) hx hb hts fi_X7_isWord_X2 hown hK hw (by decide) (by decide) rfl rfl 6 (by decide) (hts (.fieldLink RX7 130 "WrongWord$Gate" "words" "I") ow_X7_isWord_130) rfl dX7_isWord_9 ?_
    refine lv_icmp_ge (tgt := 19) hx hb dX7_isWord_12 (by decide) (fun c2 => ?_) (fun c2 => ?_)
    · skip
      have hF := hF.trans (if_pos c2)
      refine lv_iconst (v := 0) hx hb dX7_isWord_19 (by decide) ?_
      exact hret _ _ _ _ _ _ hw dX7_isWord_20 (Or.inl rfl) ⟨hF, rfl⟩
    · skip
      have hF := hF.trans (if_neg c2)
      refine lv_iconst (v := 1) hx hb dX7_isWord_15 (by decide) ?_
      refine lv_goto (tgt := 20) hx hb dX7_isWord_16 (by decide) ?_
      exact hret _ _ _ _ _ _ hw dX7_isWord_20 (Or.inr rfl) ⟨hF, rfl⟩
abbrev rmX7_isHour : Room := { frames := 0, cells := 0, slots := 0, locals := 0 }
def g_X7_isHour (v : Mm) (a1 : Int32) : Option (Int32) := if a1 < 0 then (some 0) else (if 6 ≤ a1 then (some 0) else (some 1))
set_option maxHeartbeats 4000000 in
set_option maxRecDepth 100000 in
theorem d_X7_isHour (l : Launch) (E : kq_T) (Z : km_Z) (v : Mm) (a1 : Int32) (hs : g_X7_isHour v a1 ≠ none) : km_I l E Z cntX yX7_isHour wsX7_isHour rmX7_isHour [.ref (Z.1 0 0), .int a1] v (fun r v1 => (g_X7_isHour v a1 = some r ∧ v = v1) ∧ (r = 0 ∨ r = 1)) := by
  refine km_goZ (cc := cX7_isHour) (maxL := 2) (post := fun r v1 => g_X7_isHour v a1 = some r ∧ v = v1) (by decide) rfl (Nat.le_of_ble_eq_true rfl) rfl rfl rfl ?_
  intro p e s m below meth c A ls Q C hK hw hl hret
  obtain ⟨hx, hb, hml, hown, hts, -, -, -⟩ := C
  have hown : s.vm.findClass RX7 = some m.cls := hown
  have hl : lv_has ls 2 [(0, .ref (Z.1 0 0)), (1, .int a1)] := hl
  have hF := g_X7_isHour.eq_1 v a1
  refine lv_iload_n hx hb dX7_isHour_0 rfl (lv_at hl 1 rfl) ?_
  refine lv_if_lt (tgt := 14) hx hb dX7_isHour_1 (by decide) (fun c1 => ?_) (fun c1 => ?_)
  · skip
    have hF := hF.trans (if_pos c1)
    refine lv_iconst (v := 0) hx hb dX7_isHour_14 (by decide) ?_
    exact hret _ _ _ _ _ _ hw dX7_isHour_15 (Or.inl rfl) ⟨hF, rfl⟩
  · skip
    have hF := hF.trans (if_neg c1)
    refine lv_iload_n hx hb dX7_isHour_4 rfl (lv_at hl 1 rfl) ?_
    refine lv_bipush (v := 6) hx hb dX7_isHour_5 (by decide) ?_
    refine lv_icmp_ge (tgt := 14) hx hb dX7_isHour_7 (by decide) (fun c2 => ?_) (fun c2 => ?_)
    · skip
      have hF := hF.trans (if_pos c2)
      refine lv_iconst (v := 0) hx hb dX7_isHour_14 (by decide) ?_
      exact hret _ _ _ _ _ _ hw dX7_isHour_15 (Or.inl rfl) ⟨hF, rfl⟩
    · skip
      have hF := hF.trans (if_neg c2)
      refine lv_iconst (v := 1) hx hb dX7_isHour_10 (by decide) ?_
      refine lv_goto (tgt := 15) hx hb dX7_isHour_11 (by decide) ?_
      exact hret _ _ _ _ _ _ hw dX7_isHour_15 (Or.inr rfl) ⟨hF, rfl⟩
abbrev rmX7_say : Room := { frames := 4, cells := 0, slots := 0, locals := 106 }
def g_X7_say (v : Mm) (a1 : Int32) (a2 : Int32) : Option (Int32 × Mm) := Option.bind (g_X7_isWord v a1) (fun r2 => if r2 = 0 then (some ((-1000001), v)) else (Option.bind (g_X7_isHour v a2) (fun r6 => if r6 = 0 then (some ((-1000001), v)) else (if v 10 0 7 < 9 then (Option.bind (g_X2_guardOn v 0 (v 10 0 4) a2) (fun r11 => Option.bind (g_X2_catches v 0 a1 a2 0) (fun r14 => Option.bind (g_X0_keep v 0) (fun v18 => Option.bind (g_X2_isThere v18 0 r11) (fun r20 => if r20 = 0 then (Option.bind (g_X4_addTry v18 0 a1 ((-1000000)) r14) (fun v25 => Option.bind (g_X7_bit v25 r14) (fun r27 => some (r27, v25)))) else (Option.bind (g_X4_addTry v18 0 a1 r11 r14) (fun v31 => Option.bind (g_X7_bit v31 r14) (fun r33 => some (r33, v31))))))))) else (some ((-1000003), v))))))
set_option maxHeartbeats 4000000 in
set_option maxRecDepth 100000 in
theorem d_X7_say (l : Launch) (E : kq_T) (Z : km_Z) (v : Mm) (a1 : Int32) (a2 : Int32) (hs : g_X7_say v a1 a2 ≠ none) : km_I l E Z cntX yX7_say wsX7_say rmX7_say [.ref (Z.1 0 0), .int a1, .int a2] v (fun r v1 => g_X7_say v a1 a2 = some (r, v1)) := by
  refine km_goI (cc := cX7_say) (maxL := 5) (by decide) rfl (Nat.le_of_ble_eq_true rfl) rfl rfl rfl ?_
  intro p e s m below meth c A ls Q C hK hw hl hret
  obtain ⟨hx, hb, hml, hown, hts, -, -, -⟩ := C
  have hown : s.vm.findClass RX7 = some m.cls := hown
  have hl : lv_has ls 5 [(0, .ref (Z.1 0 0)), (1, .int a1), (2, .int a2)] := hl
  have hF := g_X7_say.eq_1 v a1 a2
  refine lv_aload_n hx hb dX7_say_0 rfl (lv_at hl 0 rfl) ?_
  refine lv_iload_n hx hb dX7_say_1 rfl (lv_at hl 1 rfl) ?_
  have hs1 : g_X7_isWord v a1 ≠ none := fun q => hs (hF.trans (kb_n q _))
  refine km_cI (As := [.int a1]) (rest := []) (n := 1) (q := (RX7, TX7, 9)) (ci := 7) (t := 0) (i := 0) ⟨hx, hb, hml, hown, hts⟩ (d_X7_isWord l E Z v a1 hs1) gX7_say_X7_isWord rfl hV_X7_isWord ⟨Nat.le_of_ble_eq_true rfl, Nat.le_of_ble_eq_true rfl⟩ hK hw (by decide) (by decide) rfl rfl rfl hl.1 rfl (Nat.le_of_ble_eq_true rfl) dX7_say_2 rfl rfl (fun r2 v3 H locs hp hw => ?_)
  obtain ⟨hp, hzr2⟩ := hp
  obtain ⟨hp, rfl⟩ := hp
  have hF := hF.trans (kb_some hp _)
  refine lv_if_eq (tgt := 16) hx hb dX7_say_5 (by decide) (fun c4 => ?_) (fun c4 => ?_)
  · skip
    have hF := hF.trans (if_pos c4)
    refine lv_ldc (v := (-1000001)) hx hb hown (hts (.constant RX7 59 (-1000001)) ow_X7_say_59) dX7_say_16 ?_
    exact hret _ _ _ _ _ _ hw dX7_say_18 hF
  · skip
    have hF := hF.trans (if_neg c4)
    refine lv_aload_n hx hb dX7_say_8 rfl (lv_at hl 0 rfl) ?_
    refine lv_iload_n hx hb dX7_say_9 rfl (lv_at hl 2 rfl) ?_
    have hs5 : g_X7_isHour v a2 ≠ none := fun q => hs (hF.trans (kb_n q _))
    refine km_cI (As := [.int a2]) (rest := []) (n := 1) (q := (RX7, TX7, 9)) (ci := 7) (t := 0) (i := 0) ⟨hx, hb, hml, hown, hts⟩ (d_X7_isHour l E Z v a2 hs5) gX7_say_X7_isHour rfl hV_X7_isHour ⟨Nat.le_of_ble_eq_true rfl, Nat.le_of_ble_eq_true rfl⟩ hK hw (by decide) (by decide) rfl rfl rfl hl.1 rfl (Nat.le_of_ble_eq_true rfl) dX7_say_10 rfl rfl (fun r6 v7 H locs hp hw => ?_)
    obtain ⟨hp, hzr6⟩ := hp
    obtain ⟨hp, rfl⟩ := hp
    have hF := hF.trans (kb_some hp _)
    refine lv_if_ne (tgt := 19) hx hb dX7_say_13 (by decide) (fun c8 => ?_) (fun c8 => ?_)
    · skip
      have hF := hF.trans (if_neg c8)
      refine lv_aload_n hx hb dX7_say_19 rfl (lv_at hl 0 rfl) ?_
      refine km_get (ci := 7) (C := RX7) (T := TX7) (N := 9) (t := 0) (i := 0) hx hb hts fi_X7_say_X7 hown hK hw (by decide) (by decide) rfl rfl 2 (by decide) (hts (.fieldLink RX7 25 "WrongWord" "gate" "LWrongWord$Gate;") ow_X7_say_25) rfl dX7_say_20 ?_
      refine km_get (ci := 2) (C := RX2) (T := TX2) (N := 8) (t := 6) (i := 0) hx hb hts fi_X7_say_X2 hown hK hw (by decide) (by decide) rfl rfl 3 (by decide) (hts (.fieldLink RX7 137 "WrongWord$Gate" "now" "LWrongWord$Moment;") ow_X7_say_137) rfl dX7_say_23 ?_
      refine km_get (ci := 4) (C := RX4) (T := TX4) (N := 8) (t := 10) (i := 0) hx hb hts fi_X7_say_X4 hown hK hw (by decide) (by decide) rfl rfl 7 (by decide) (hts (.fieldLink RX7 162 "WrongWord$Moment" "tries" "I") ow_X7_say_162) rfl dX7_say_26 ?_
      refine lv_bipush (v := 9) hx hb dX7_say_29 (by decide) ?_
      refine lv_icmp_lt (tgt := 37) hx hb dX7_say_31 (by decide) (fun c9 => ?_) (fun c9 => ?_)
      · skip
        have hF := hF.trans (if_pos c9)
        refine lv_aload_n hx hb dX7_say_37 rfl (lv_at hl 0 rfl) ?_
        refine km_get (ci := 7) (C := RX7) (T := TX7) (N := 9) (t := 0) (i := 0) hx hb hts fi_X7_say_X7 hown hK hw (by decide) (by decide) rfl rfl 2 (by decide) (hts (.fieldLink RX7 25 "WrongWord" "gate" "LWrongWord$Gate;") ow_X7_say_25) rfl dX7_say_38 ?_
        refine lv_aload_n hx hb dX7_say_41 rfl (lv_at hl 0 rfl) ?_
        refine km_get (ci := 7) (C := RX7) (T := TX7) (N := 9) (t := 0) (i := 0) hx hb hts fi_X7_say_X7 hown hK hw (by decide) (by decide) rfl rfl 2 (by decide) (hts (.fieldLink RX7 25 "WrongWord" "gate" "LWrongWord$Gate;") ow_X7_say_25) rfl dX7_say_42 ?_
        refine km_get (ci := 2) (C := RX2) (T := TX2) (N := 8) (t := 6) (i := 0) hx hb hts fi_X7_say_X2 hown hK hw (by decide) (by decide) rfl rfl 3 (by decide) (hts (.fieldLink RX7 137 "WrongWord$Gate" "now" "LWrongWord$Moment;") ow_X7_say_137) rfl dX7_say_45 ?_
        refine km_get (ci := 4) (C := RX4) (T := TX4) (N := 8) (t := 10) (i := 0) hx hb hts fi_X7_say_X4 hown hK hw (by decide) (by decide) rfl rfl 4 (by decide) (hts (.fieldLink RX7 141 "WrongWord$Moment" "night" "I") ow_X7_say_141) rfl dX7_say_48 ?_
        refine lv_iload_n hx hb dX7_say_51 rfl (lv_at hl 2 rfl) ?_
        have hs10 : g_X2_guardOn v 0 (v 10 0 4) a2 ≠ none := fun q => hs (hF.trans (kb_n q _))
        refine km_cI (As := [.int (v 10 0 4), .int a2]) (rest := []) (n := 2) (q := (RX2, TX2, 8)) (ci := 2) (t := 6) (i := 0) ⟨hx, hb, hml, hown, hts⟩ (d_X2_guardOn l E Z v 0 (by decide) (v 10 0 4) a2 hs10) gX7_say_X2_guardOn rfl hV_X2_guardOn ⟨Nat.le_of_ble_eq_true rfl, Nat.le_of_ble_eq_true rfl⟩ hK hw (by decide) (by decide) rfl rfl rfl hl.1 rfl (Nat.le_of_ble_eq_true rfl) dX7_say_52 rfl rfl (fun r11 v12 H locs hp hw => ?_)
        obtain ⟨hp, rfl⟩ := hp
        have hF := hF.trans (kb_some hp _)
        refine lv_istore_n (lv' := [(3, .int r11), (0, .ref (Z.1 0 0)), (1, .int a1), (2, .int a2)]) hx hb dX7_say_55 rfl hl (by decide) rfl (fun ls hl => ?_)
        refine lv_aload_n hx hb dX7_say_56 rfl (lv_at hl 1 rfl) ?_
        refine km_get (ci := 7) (C := RX7) (T := TX7) (N := 9) (t := 0) (i := 0) hx hb hts fi_X7_say_X7 hown hK hw (by decide) (by decide) rfl rfl 2 (by decide) (hts (.fieldLink RX7 25 "WrongWord" "gate" "LWrongWord$Gate;") ow_X7_say_25) rfl dX7_say_57 ?_
        refine lv_iload_n hx hb dX7_say_60 rfl (lv_at hl 2 rfl) ?_
        refine lv_iload_n hx hb dX7_say_61 rfl (lv_at hl 3 rfl) ?_
        refine lv_iconst (v := 0) hx hb dX7_say_62 (by decide) ?_
        have hs13 : g_X2_catches v 0 a1 a2 0 ≠ none := fun q => hs (hF.trans (kb_n q _))
        refine km_cI (As := [.int a1, .int a2, .int 0]) (rest := []) (n := 3) (q := (RX2, TX2, 8)) (ci := 2) (t := 6) (i := 0) ⟨hx, hb, hml, hown, hts⟩ (d_X2_catches l E Z v 0 (by decide) a1 a2 0 hs13) gX7_say_X2_catches rfl hV_X2_catches ⟨Nat.le_of_ble_eq_true rfl, Nat.le_of_ble_eq_true rfl⟩ hK hw (by decide) (by decide) rfl rfl rfl hl.1 rfl (Nat.le_of_ble_eq_true rfl) dX7_say_63 rfl rfl (fun r14 v15 H locs hp hw => ?_)
        obtain ⟨hp, hzr14⟩ := hp
        obtain ⟨hp, rfl⟩ := hp
        have hF := hF.trans (kb_some hp _)
        refine lv_istore (lv' := [(4, .int r14), (3, .int r11), (0, .ref (Z.1 0 0)), (1, .int a1), (2, .int a2)]) hx hb dX7_say_66 hl (by decide) rfl (fun ls hl => ?_)
        refine lv_aload_n hx hb dX7_say_68 rfl (lv_at hl 2 rfl) ?_
        refine km_get (ci := 7) (C := RX7) (T := TX7) (N := 9) (t := 0) (i := 0) hx hb hts fi_X7_say_X7 hown hK hw (by decide) (by decide) rfl rfl 3 (by decide) (hts (.fieldLink RX7 32 "WrongWord" "acts" "LWrongWord$Acts;") ow_X7_say_32) rfl dX7_say_69 ?_
        refine lv_aload_n hx hb dX7_say_72 rfl (lv_at hl 2 rfl) ?_
        refine km_get (ci := 7) (C := RX7) (T := TX7) (N := 9) (t := 0) (i := 0) hx hb hts fi_X7_say_X7 hown hK hw (by decide) (by decide) rfl rfl 2 (by decide) (hts (.fieldLink RX7 25 "WrongWord" "gate" "LWrongWord$Gate;") ow_X7_say_25) rfl dX7_say_73 ?_
        refine km_get (ci := 2) (C := RX2) (T := TX2) (N := 8) (t := 6) (i := 0) hx hb hts fi_X7_say_X2 hown hK hw (by decide) (by decide) rfl rfl 3 (by decide) (hts (.fieldLink RX7 137 "WrongWord$Gate" "now" "LWrongWord$Moment;") ow_X7_say_137) rfl dX7_say_76 ?_
        have hs16 : g_X0_keep v 0 ≠ none := fun q => hs (hF.trans (kb_n q _))
        refine km_cV (As := [.ref (Z.1 10 0)]) (rest := []) (n := 1) (q := (RX0, TX0, 3)) (ci := 0) (t := 15) (i := 0) ⟨hx, hb, hml, hown, hts⟩ (d_X0_keep l E Z v 0 (by decide) hs16) gX7_say_X0_keep rfl hV_X0_keep ⟨Nat.le_of_ble_eq_true rfl, Nat.le_of_ble_eq_true rfl⟩ hK hw (by decide) (by decide) rfl rfl rfl hl.1 rfl (Nat.le_of_ble_eq_true rfl) dX7_say_79 rfl rfl (fun v18 H locs hp hw => ?_)
        have hF := hF.trans (kb_some hp _)
        refine lv_aload_n hx hb dX7_say_82 rfl (lv_at hl 2 rfl) ?_
        refine km_get (ci := 7) (C := RX7) (T := TX7) (N := 9) (t := 0) (i := 0) hx hb hts fi_X7_say_X7 hown hK hw (by decide) (by decide) rfl rfl 2 (by decide) (hts (.fieldLink RX7 25 "WrongWord" "gate" "LWrongWord$Gate;") ow_X7_say_25) rfl dX7_say_83 ?_
        refine km_get (ci := 2) (C := RX2) (T := TX2) (N := 8) (t := 6) (i := 0) hx hb hts fi_X7_say_X2 hown hK hw (by decide) (by decide) rfl rfl 3 (by decide) (hts (.fieldLink RX7 137 "WrongWord$Gate" "now" "LWrongWord$Moment;") ow_X7_say_137) rfl dX7_say_86 ?_
        refine lv_iload_n hx hb dX7_say_89 rfl (lv_at hl 3 rfl) ?_
        refine lv_aload_n hx hb dX7_say_90 rfl (lv_at hl 2 rfl) ?_
        refine km_get (ci := 7) (C := RX7) (T := TX7) (N := 9) (t := 0) (i := 0) hx hb hts fi_X7_say_X7 hown hK hw (by decide) (by decide) rfl rfl 2 (by decide) (hts (.fieldLink RX7 25 "WrongWord" "gate" "LWrongWord$Gate;") ow_X7_say_25) rfl dX7_say_91 ?_
        refine lv_iload_n hx hb dX7_say_94 rfl (lv_at hl 1 rfl) ?_
        have hs19 : g_X2_isThere v18 0 r11 ≠ none := fun q => hs (hF.trans (kb_n q _))
        refine km_cI (As := [.int r11]) (rest := [.int a1, .ref (Z.1 10 0)]) (n := 1) (q := (RX2, TX2, 8)) (ci := 2) (t := 6) (i := 0) ⟨hx, hb, hml, hown, hts⟩ (d_X2_isThere l E Z v18 0 (by decide) r11 hs19) gX7_say_X2_isThere rfl hV_X2_isThere ⟨Nat.le_of_ble_eq_true rfl, Nat.le_of_ble_eq_true rfl⟩ hK hw (by decide) (by decide) rfl rfl rfl hl.1 rfl (Nat.le_of_ble_eq_true rfl) dX7_say_95 rfl rfl (fun r20 v21 H locs hp hw => ?_)
        obtain ⟨hp, hzr20⟩ := hp
        obtain ⟨hp, rfl⟩ := hp
        have hF := hF.trans (kb_some hp _)
        refine lv_if_eq (tgt := 105) hx hb dX7_say_98 (by decide) (fun c22 => ?_) (fun c22 => ?_)
        · skip
          have hF := hF.trans (if_pos c22)
          refine lv_ldc (v := (-1000000)) hx hb hown (hts (.constant RX7 175 (-1000000)) ow_X7_say_175) dX7_say_105 ?_
          refine lv_iload hx hb dX7_say_107 (lv_at hl 0 rfl) ?_
          have hs23 : g_X4_addTry v18 0 a1 ((-1000000)) r14 ≠ none := fun q => hs (hF.trans (kb_n q _))
          refine km_cV (As := [.int a1, .int ((-1000000)), .int r14]) (rest := []) (n := 3) (q := (RX4, TX4, 8)) (ci := 4) (t := 10) (i := 0) ⟨hx, hb, hml, hown, hts⟩ (d_X4_addTry l E Z v18 0 (by decide) a1 ((-1000000)) r14 hs23) gX7_say_X4_addTry rfl hV_X4_addTry ⟨Nat.le_of_ble_eq_true rfl, Nat.le_of_ble_eq_true rfl⟩ hK hw (by decide) (by decide) rfl rfl rfl hl.1 rfl (Nat.le_of_ble_eq_true rfl) dX7_say_109 rfl rfl (fun v25 H locs hp hw => ?_)
          have hF := hF.trans (kb_some hp _)
          refine lv_iload hx hb dX7_say_112 (lv_at hl 0 rfl) ?_
          have hs26 : g_X7_bit v25 r14 ≠ none := fun q => hs (hF.trans (kb_n q _))
          refine km_cS (As := [.int r14]) (rest := []) (n := 1) ⟨hx, hb, hml, hown, hts⟩ (d_X7_bit l E Z v25 r14 hs26) gX7_say_X7_bit rfl hV_X7_bit ⟨Nat.le_of_ble_eq_true rfl, Nat.le_of_ble_eq_true rfl⟩ hK hw rfl hl.1 rfl (Nat.le_of_ble_eq_true rfl) dX7_say_114 rfl rfl (fun r27 v28 H locs hp hw => ?_)
          obtain ⟨hp, rfl⟩ := hp
          have hF := hF.trans (kb_some hp _)
          exact hret _ _ _ _ _ _ hw dX7_say_117 hF
        · skip
          have hF := hF.trans (if_neg c22)
          refine lv_iload_n hx hb dX7_say_101 rfl (lv_at hl 1 rfl) ?_
          refine lv_goto (tgt := 107) hx hb dX7_say_102 (by decide) ?_
          refine lv_iload hx hb dX7_say_107 (lv_at hl 0 rfl) ?_
          have hs29 : g_X4_addTry v18 0 a1 r11 r14 ≠ none := fun q => hs (hF.trans (kb_n q _))
          refine km_cV (As := [.int a1, .int r11, .int r14]) (rest := []) (n := 3) (q := (RX4, TX4, 8)) (ci := 4) (t := 10) (i := 0) ⟨hx, hb, hml, hown, hts⟩ (d_X4_addTry l E Z v18 0 (by decide) a1 r11 r14 hs29) gX7_say_X4_addTry rfl hV_X4_addTry ⟨Nat.le_of_ble_eq_true rfl, Nat.le_of_ble_eq_true rfl⟩ hK hw (by decide) (by decide) rfl rfl rfl hl.1 rfl (Nat.le_of_ble_eq_true rfl) dX7_say_109 rfl rfl (fun v31 H locs hp hw => ?_)
          have hF := hF.trans (kb_some hp _)
          refine lv_iload hx hb dX7_say_112 (lv_at hl 0 rfl) ?_
          have hs32 : g_X7_bit v31 r14 ≠ none := fun q => hs (hF.trans (kb_n q _))
          refine km_cS (As := [.int r14]) (rest := []) (n := 1) ⟨hx, hb, hml, hown, hts⟩ (d_X7_bit l E Z v31 r14 hs32) gX7_say_X7_bit rfl hV_X7_bit ⟨Nat.le_of_ble_eq_true rfl, Nat.le_of_ble_eq_true rfl⟩ hK hw rfl hl.1 rfl (Nat.le_of_ble_eq_true rfl) dX7_say_114 rfl rfl (fun r33 v34 H locs hp hw => ?_)
          obtain ⟨hp, rfl⟩ := hp
          have hF := hF.trans (kb_some hp _)
          exact hret _ _ _ _ _ _ hw dX7_say_117 hF
      · skip
        have hF := hF.trans (if_neg c9)
        refine lv_ldc (v := (-1000003)) hx hb hown (hts (.constant RX7 105 (-1000003)) ow_X7_say_105) dX7_say_34 ?_
        exact hret _ _ _ _ _ _ hw dX7_say_36 hF
    · skip
      have hF := hF.trans (if_pos c8)
      refine lv_ldc (v := (-1000001)) hx hb hown (hts (.constant RX7 59 (-1000001)) ow_X7_say_59) dX7_say_16 ?_
      exact hret _ _ _ _ _ _ hw dX7_say_18 hF
abbrev rmX7_start : Room := { frames := 3, cells := 0, slots := 0, locals := 106 }
def g_X7_start (v : Mm) (a1 : Int32) : Option (Int32 × Mm) := Option.bind (g_X7_noGate v) (fun r2 => if r2 = 0 then (if a1 < 0 then (some ((-1000001), v)) else (if a1 ≤ 9 then (Option.bind (g_X0_keep v 0) (fun v9 => Option.bind (some (up3 v9 10 0 5 a1)) (fun v10 => some (v 10 0 5, v10)))) else (some ((-1000001), v)))) else (some ((-1000002), v)))
set_option maxHeartbeats 4000000 in
set_option maxRecDepth 100000 in
theorem d_X7_start (l : Launch) (E : kq_T) (Z : km_Z) (v : Mm) (a1 : Int32) (hs : g_X7_start v a1 ≠ none) : km_I l E Z cntX yX7_start wsX7_start rmX7_start [.ref (Z.1 0 0), .int a1] v (fun r v1 => g_X7_start v a1 = some (r, v1)) := by
  refine km_goI (cc := cX7_start) (maxL := 3) (by decide) rfl (Nat.le_of_ble_eq_true rfl) rfl rfl rfl ?_
  intro p e s m below meth c A ls Q C hK hw hl hret
  obtain ⟨hx, hb, hml, hown, hts, -, -, -⟩ := C
  have hown : s.vm.findClass RX7 = some m.cls := hown
  have hl : lv_has ls 3 [(0, .ref (Z.1 0 0)), (1, .int a1)] := hl
  have hF := g_X7_start.eq_1 v a1
  refine lv_aload_n hx hb dX7_start_0 rfl (lv_at hl 0 rfl) ?_
  have hs1 : g_X7_noGate v ≠ none := fun q => hs (hF.trans (kb_n q _))
  refine km_cI (As := []) (rest := []) (n := 0) (q := (RX7, TX7, 9)) (ci := 7) (t := 0) (i := 0) ⟨hx, hb, hml, hown, hts⟩ (d_X7_noGate l E Z v  hs1) gX7_start_X7_noGate rfl hV_X7_noGate ⟨Nat.le_of_ble_eq_true rfl, Nat.le_of_ble_eq_true rfl⟩ hK hw (by decide) (by decide) rfl rfl rfl hl.1 rfl (Nat.le_of_ble_eq_true rfl) dX7_start_1 rfl rfl (fun r2 v3 H locs hp hw => ?_)
  obtain ⟨hp, hzr2⟩ := hp
  obtain ⟨hp, rfl⟩ := hp
  have hF := hF.trans (kb_some hp _)
  refine lv_if_eq (tgt := 10) hx hb dX7_start_4 (by decide) (fun c4 => ?_) (fun c4 => ?_)
  · skip
    have hF := hF.trans (if_pos c4)
    refine lv_iload_n hx hb dX7_start_10 rfl (lv_at hl 1 rfl) ?_
    refine lv_if_lt (tgt := 20) hx hb dX7_start_11 (by decide) (fun c5 => ?_) (fun c5 => ?_)
    · skip
      have hF := hF.trans (if_pos c5)
      refine lv_ldc (v := (-1000001)) hx hb hown (hts (.constant RX7 59 (-1000001)) ow_X7_start_59) dX7_start_20 ?_
      exact hret _ _ _ _ _ _ hw dX7_start_22 hF
    · skip
      have hF := hF.trans (if_neg c5)
      refine lv_iload_n hx hb dX7_start_14 rfl (lv_at hl 1 rfl) ?_
      refine lv_bipush (v := 9) hx hb dX7_start_15 (by decide) ?_
      refine lv_icmp_le (tgt := 23) hx hb dX7_start_17 (by decide) (fun c6 => ?_) (fun c6 => ?_)
      · skip
        have hF := hF.trans (if_pos c6)
        refine lv_aload_n hx hb dX7_start_23 rfl (lv_at hl 0 rfl) ?_
        refine km_get (ci := 7) (C := RX7) (T := TX7) (N := 9) (t := 0) (i := 0) hx hb hts fi_X7_start_X7 hown hK hw (by decide) (by decide) rfl rfl 2 (by decide) (hts (.fieldLink RX7 25 "WrongWord" "gate" "LWrongWord$Gate;") ow_X7_start_25) rfl dX7_start_24 ?_
        refine km_get (ci := 2) (C := RX2) (T := TX2) (N := 8) (t := 6) (i := 0) hx hb hts fi_X7_start_X2 hown hK hw (by decide) (by decide) rfl rfl 3 (by decide) (hts (.fieldLink RX7 137 "WrongWord$Gate" "now" "LWrongWord$Moment;") ow_X7_start_137) rfl dX7_start_27 ?_
        refine km_get (ci := 4) (C := RX4) (T := TX4) (N := 8) (t := 10) (i := 0) hx hb hts fi_X7_start_X4 hown hK hw (by decide) (by decide) rfl rfl 5 (by decide) (hts (.fieldLink RX7 184 "WrongWord$Moment" "start" "I") ow_X7_start_184) rfl dX7_start_30 ?_
        refine lv_istore_n (lv' := [(2, .int (v 10 0 5)), (0, .ref (Z.1 0 0)), (1, .int a1)]) hx hb dX7_start_33 rfl hl (by decide) rfl (fun ls hl => ?_)
        refine lv_aload_n hx hb dX7_start_34 rfl (lv_at hl 1 rfl) ?_
        refine km_get (ci := 7) (C := RX7) (T := TX7) (N := 9) (t := 0) (i := 0) hx hb hts fi_X7_start_X7 hown hK hw (by decide) (by decide) rfl rfl 3 (by decide) (hts (.fieldLink RX7 32 "WrongWord" "acts" "LWrongWord$Acts;") ow_X7_start_32) rfl dX7_start_35 ?_
        refine lv_aload_n hx hb dX7_start_38 rfl (lv_at hl 1 rfl) ?_
        refine km_get (ci := 7) (C := RX7) (T := TX7) (N := 9) (t := 0) (i := 0) hx hb hts fi_X7_start_X7 hown hK hw (by decide) (by decide) rfl rfl 2 (by decide) (hts (.fieldLink RX7 25 "WrongWord" "gate" "LWrongWord$Gate;") ow_X7_start_25) rfl dX7_start_39 ?_
        refine km_get (ci := 2) (C := RX2) (T := TX2) (N := 8) (t := 6) (i := 0) hx hb hts fi_X7_start_X2 hown hK hw (by decide) (by decide) rfl rfl 3 (by decide) (hts (.fieldLink RX7 137 "WrongWord$Gate" "now" "LWrongWord$Moment;") ow_X7_start_137) rfl dX7_start_42 ?_
        have hs7 : g_X0_keep v 0 ≠ none := fun q => hs (hF.trans (kb_n q _))
        refine km_cV (As := [.ref (Z.1 10 0)]) (rest := []) (n := 1) (q := (RX0, TX0, 3)) (ci := 0) (t := 15) (i := 0) ⟨hx, hb, hml, hown, hts⟩ (d_X0_keep l E Z v 0 (by decide) hs7) gX7_start_X0_keep rfl hV_X0_keep ⟨Nat.le_of_ble_eq_true rfl, Nat.le_of_ble_eq_true rfl⟩ hK hw (by decide) (by decide) rfl rfl rfl hl.1 rfl (Nat.le_of_ble_eq_true rfl) dX7_start_45 rfl rfl (fun v9 H locs hp hw => ?_)
        have hF := hF.trans (kb_some hp _)
        refine lv_aload_n hx hb dX7_start_48 rfl (lv_at hl 1 rfl) ?_
        refine km_get (ci := 7) (C := RX7) (T := TX7) (N := 9) (t := 0) (i := 0) hx hb hts fi_X7_start_X7 hown hK hw (by decide) (by decide) rfl rfl 2 (by decide) (hts (.fieldLink RX7 25 "WrongWord" "gate" "LWrongWord$Gate;") ow_X7_start_25) rfl dX7_start_49 ?_
        refine km_get (ci := 2) (C := RX2) (T := TX2) (N := 8) (t := 6) (i := 0) hx hb hts fi_X7_start_X2 hown hK hw (by decide) (by decide) rfl rfl 3 (by decide) (hts (.fieldLink RX7 137 "WrongWord$Gate" "now" "LWrongWord$Moment;") ow_X7_start_137) rfl dX7_start_52 ?_
        refine lv_iload_n hx hb dX7_start_55 rfl (lv_at hl 2 rfl) ?_
        refine km_put (ci := 4) (C := RX4) (T := TX4) (N := 8) (t := 10) (i := 0) hx hb hts fi_X7_start_X4 tyX4 tyX4_ok nmX4 hown hK hw (by decide) (by decide) rfl rfl 5 (by decide) (hts (.fieldLink RX7 184 "WrongWord$Moment" "start" "I") ow_X7_start_184) rfl (by decide +kernel) (Nat.le_of_ble_eq_true rfl) rfl dX7_start_56 (fun H locs hw => ?_)
        obtain ⟨v10, ev10⟩ : ∃ z, z = up3 v9 10 0 5 a1 := ⟨_, rfl⟩
        rw [← ev10] at hw
        have hF := hF.trans (kb_some (congrArg some ev10.symm) _)
        refine lv_iload_n hx hb dX7_start_59 rfl (lv_at hl 0 rfl) ?_
        exact hret _ _ _ _ _ _ hw dX7_start_60 hF
      · skip
        have hF := hF.trans (if_neg c6)
        refine lv_ldc (v := (-1000001)) hx hb hown (hts (.constant RX7 59 (-1000001)) ow_X7_start_59) dX7_start_20 ?_
        exact hret _ _ _ _ _ _ hw dX7_start_22 hF
  · skip
    have hF := hF.trans (if_neg c4)
    refine lv_ldc (v := (-1000002)) hx hb hown (hts (.constant RX7 136 (-1000002)) ow_X7_start_136) dX7_start_7 ?_
    exact hret _ _ _ _ _ _ hw dX7_start_9 hF
abbrev rmX7_isGuard : Room := { frames := 0, cells := 0, slots := 0, locals := 0 }
def g_X7_isGuard (v : Mm) (a1 : Int32) : Option (Int32) := if a1 < 0 then (some 0) else (if v 6 0 7 ≤ a1 then (some 0) else (some 1))
set_option maxHeartbeats 4000000 in
set_option maxRecDepth 100000 in
theorem d_X7_isGuard (l : Launch) (E : kq_T) (Z : km_Z) (v : Mm) (a1 : Int32) (hs : g_X7_isGuard v a1 ≠ none) : km_I l E Z cntX yX7_isGuard wsX7_isGuard rmX7_isGuard [.ref (Z.1 0 0), .int a1] v (fun r v1 => (g_X7_isGuard v a1 = some r ∧ v = v1) ∧ (r = 0 ∨ r = 1)) := by
  refine km_goZ (cc := cX7_isGuard) (maxL := 2) (post := fun r v1 => g_X7_isGuard v a1 = some r ∧ v = v1) (by decide) rfl (Nat.le_of_ble_eq_true rfl) rfl rfl rfl ?_
  intro p e s m below meth c A ls Q C hK hw hl hret
  obtain ⟨hx, hb, hml, hown, hts, -, -, -⟩ := C
  have hown : s.vm.findClass RX7 = some m.cls := hown
  have hl : lv_has ls 2 [(0, .ref (Z.1 0 0)), (1, .int a1)] := hl
  have hF := g_X7_isGuard.eq_1 v a1
  refine lv_iload_n hx hb dX7_isGuard_0 rfl (lv_at hl 1 rfl) ?_
  refine lv_if_lt (tgt := 19) hx hb dX7_isGuard_1 (by decide) (fun c1 => ?_) (fun c1 => ?_)
  · skip
    have hF := hF.trans (if_pos c1)
    refine lv_iconst (v := 0) hx hb dX7_isGuard_19 (by decide) ?_
    exact hret _ _ _ _ _ _ hw dX7_isGuard_20 (Or.inl rfl) ⟨hF, rfl⟩
  · skip
    have hF := hF.trans (if_neg c1)
    refine lv_iload_n hx hb dX7_isGuard_4 rfl (lv_at hl 1 rfl) ?_
    refine lv_aload_n hx hb dX7_isGuard_5 rfl (lv_at hl 0 rfl) ?_
    refine km_get (ci := 7) (C := RX7) (T := TX7) (N := 9) (t := 0) (i := 0) hx hb hts fi_X7_isGuard_X7 hown hK hw (by decide) (by decide) rfl rfl 2 (by decide) (hts (.fieldLink RX7 25 "WrongWord" "gate" "LWrongWord$Gate;") ow_X7_isGuard_25) rfl dX7_isGuard_6 ?_
    refine km_get (ci := 2) (C := RX2) (T := TX2) (N := 8) (t := 6) (i := 0) hx hb hts fi_X7_isGuard_X2 hown hK hw (by decide) (by decide) rfl rfl 7 (by decide) (hts (.fieldLink RX7 327 "WrongWord$Gate" "guards" "I") ow_X7_isGuard_327) rfl dX7_isGuard_9 ?_
    refine lv_icmp_ge (tgt := 19) hx hb dX7_isGuard_12 (by decide) (fun c2 => ?_) (fun c2 => ?_)
    · skip
      have hF := hF.trans (if_pos c2)
      refine lv_iconst (v := 0) hx hb dX7_isGuard_19 (by decide) ?_
      exact hret _ _ _ _ _ _ hw dX7_isGuard_20 (Or.inl rfl) ⟨hF, rfl⟩
    · skip
      have hF := hF.trans (if_neg c2)
      refine lv_iconst (v := 1) hx hb dX7_isGuard_15 (by decide) ?_
      refine lv_goto (tgt := 20) hx hb dX7_isGuard_16 (by decide) ?_
      exact hret _ _ _ _ _ _ hw dX7_isGuard_20 (Or.inr rfl) ⟨hF, rfl⟩
abbrev rmX7_dismiss : Room := { frames := 3, cells := 0, slots := 0, locals := 106 }
def g_X7_dismiss (v : Mm) (a1 : Int32) (a2 : Int32) : Option (Int32 × Mm) := Option.bind (g_X7_isGuard v a1) (fun r2 => if r2 = 0 then (some ((-1000001), v)) else (if a2 < 0 then (some ((-1000001), v)) else (if a2 ≤ 1 then (Option.bind (g_X2_isThere v 0 a1) (fun r8 => Option.bind (g_X7_bit v r8) (fun r11 => if r11 = a2 then (some ((-1000002), v)) else (Option.bind (g_X0_keep v 0) (fun v16 => Option.bind (some (up3 v16 10 0 6 ((v16 10 0 6) ^^^ ((1 : Int32) <<< (a1 &&& 31))))) (fun v17 => some (v17 10 0 6, v17))))))) else (some ((-1000001), v)))))
set_option maxHeartbeats 4000000 in
set_option maxRecDepth 100000 in
theorem d_X7_dismiss (l : Launch) (E : kq_T) (Z : km_Z) (v : Mm) (a1 : Int32) (a2 : Int32) (hs : g_X7_dismiss v a1 a2 ≠ none) : km_I l E Z cntX yX7_dismiss wsX7_dismiss rmX7_dismiss [.ref (Z.1 0 0), .int a1, .int a2] v (fun r v1 => g_X7_dismiss v a1 a2 = some (r, v1)) := by
  refine km_goI (cc := cX7_dismiss) (maxL := 3) (by decide) rfl (Nat.le_of_ble_eq_true rfl) rfl rfl rfl ?_
  intro p e s m below meth c A ls Q C hK hw hl hret
  obtain ⟨hx, hb, hml, hown, hts, -, -, -⟩ := C
  have hown : s.vm.findClass RX7 = some m.cls := hown
  have hl : lv_has ls 3 [(0, .ref (Z.1 0 0)), (1, .int a1), (2, .int a2)] := hl
  have hF := g_X7_dismiss.eq_1 v a1 a2
  refine lv_aload_n hx hb dX7_dismiss_0 rfl (lv_at hl 0 rfl) ?_
  refine lv_iload_n hx hb dX7_dismiss_1 rfl (lv_at hl 1 rfl) ?_
  have hs1 : g_X7_isGuard v a1 ≠ none := fun q => hs (hF.trans (kb_n q _))
  refine km_cI (As := [.int a1]) (rest := []) (n := 1) (q := (RX7, TX7, 9)) (ci := 7) (t := 0) (i := 0) ⟨hx, hb, hml, hown, hts⟩ (d_X7_isGuard l E Z v a1 hs1) gX7_dismiss_X7_isGuard rfl hV_X7_isGuard ⟨Nat.le_of_ble_eq_true rfl, Nat.le_of_ble_eq_true rfl⟩ hK hw (by decide) (by decide) rfl rfl rfl hl.1 rfl (Nat.le_of_ble_eq_true rfl) dX7_dismiss_2 rfl rfl (fun r2 v3 H locs hp hw => ?_)
  obtain ⟨hp, hzr2⟩ := hp
  obtain ⟨hp, rfl⟩ := hp
  have hF := hF.trans (kb_some hp _)
  refine lv_if_eq (tgt := 17) hx hb dX7_dismiss_5 (by decide) (fun c4 => ?_) (fun c4 => ?_)
  · skip
    have hF := hF.trans (if_pos c4)
    refine lv_ldc (v := (-1000001)) hx hb hown (hts (.constant RX7 59 (-1000001)) ow_X7_dismiss_59) dX7_dismiss_17 ?_
    exact hret _ _ _ _ _ _ hw dX7_dismiss_19 hF
  · skip
    have hF := hF.trans (if_neg c4)
    refine lv_iload_n hx hb dX7_dismiss_8 rfl (lv_at hl 2 rfl) ?_
    refine lv_if_lt (tgt := 17) hx hb dX7_dismiss_9 (by decide) (fun c5 => ?_) (fun c5 => ?_)
    · skip
      have hF := hF.trans (if_pos c5)
      refine lv_ldc (v := (-1000001)) hx hb hown (hts (.constant RX7 59 (-1000001)) ow_X7_dismiss_59) dX7_dismiss_17 ?_
      exact hret _ _ _ _ _ _ hw dX7_dismiss_19 hF
    · skip
      have hF := hF.trans (if_neg c5)
      refine lv_iload_n hx hb dX7_dismiss_12 rfl (lv_at hl 2 rfl) ?_
      refine lv_iconst (v := 1) hx hb dX7_dismiss_13 (by decide) ?_
      refine lv_icmp_le (tgt := 20) hx hb dX7_dismiss_14 (by decide) (fun c6 => ?_) (fun c6 => ?_)
      · skip
        have hF := hF.trans (if_pos c6)
        refine lv_aload_n hx hb dX7_dismiss_20 rfl (lv_at hl 0 rfl) ?_
        refine km_get (ci := 7) (C := RX7) (T := TX7) (N := 9) (t := 0) (i := 0) hx hb hts fi_X7_dismiss_X7 hown hK hw (by decide) (by decide) rfl rfl 2 (by decide) (hts (.fieldLink RX7 25 "WrongWord" "gate" "LWrongWord$Gate;") ow_X7_dismiss_25) rfl dX7_dismiss_21 ?_
        refine lv_iload_n hx hb dX7_dismiss_24 rfl (lv_at hl 1 rfl) ?_
        have hs7 : g_X2_isThere v 0 a1 ≠ none := fun q => hs (hF.trans (kb_n q _))
        refine km_cI (As := [.int a1]) (rest := []) (n := 1) (q := (RX2, TX2, 8)) (ci := 2) (t := 6) (i := 0) ⟨hx, hb, hml, hown, hts⟩ (d_X2_isThere l E Z v 0 (by decide) a1 hs7) gX7_dismiss_X2_isThere rfl hV_X2_isThere ⟨Nat.le_of_ble_eq_true rfl, Nat.le_of_ble_eq_true rfl⟩ hK hw (by decide) (by decide) rfl rfl rfl hl.1 rfl (Nat.le_of_ble_eq_true rfl) dX7_dismiss_25 rfl rfl (fun r8 v9 H locs hp hw => ?_)
        obtain ⟨hp, hzr8⟩ := hp
        obtain ⟨hp, rfl⟩ := hp
        have hF := hF.trans (kb_some hp _)
        have hs10 : g_X7_bit v r8 ≠ none := fun q => hs (hF.trans (kb_n q _))
        refine km_cS (As := [.int r8]) (rest := []) (n := 1) ⟨hx, hb, hml, hown, hts⟩ (d_X7_bit l E Z v r8 hs10) gX7_dismiss_X7_bit rfl hV_X7_bit ⟨Nat.le_of_ble_eq_true rfl, Nat.le_of_ble_eq_true rfl⟩ hK hw rfl hl.1 rfl (Nat.le_of_ble_eq_true rfl) dX7_dismiss_28 rfl rfl (fun r11 v12 H locs hp hw => ?_)
        obtain ⟨hp, rfl⟩ := hp
        have hF := hF.trans (kb_some hp _)
        refine lv_iload_n hx hb dX7_dismiss_31 rfl (lv_at hl 2 rfl) ?_
        refine lv_icmp_ne (tgt := 38) hx hb dX7_dismiss_32 (by decide) (fun c13 => ?_) (fun c13 => ?_)
        · skip
          have hF := hF.trans (if_neg c13)
          refine lv_aload_n hx hb dX7_dismiss_38 rfl (lv_at hl 0 rfl) ?_
          refine km_get (ci := 7) (C := RX7) (T := TX7) (N := 9) (t := 0) (i := 0) hx hb hts fi_X7_dismiss_X7 hown hK hw (by decide) (by decide) rfl rfl 3 (by decide) (hts (.fieldLink RX7 32 "WrongWord" "acts" "LWrongWord$Acts;") ow_X7_dismiss_32) rfl dX7_dismiss_39 ?_
          refine lv_aload_n hx hb dX7_dismiss_42 rfl (lv_at hl 0 rfl) ?_
          refine km_get (ci := 7) (C := RX7) (T := TX7) (N := 9) (t := 0) (i := 0) hx hb hts fi_X7_dismiss_X7 hown hK hw (by decide) (by decide) rfl rfl 2 (by decide) (hts (.fieldLink RX7 25 "WrongWord" "gate" "LWrongWord$Gate;") ow_X7_dismiss_25) rfl dX7_dismiss_43 ?_
          refine km_get (ci := 2) (C := RX2) (T := TX2) (N := 8) (t := 6) (i := 0) hx hb hts fi_X7_dismiss_X2 hown hK hw (by decide) (by decide) rfl rfl 3 (by decide) (hts (.fieldLink RX7 137 "WrongWord$Gate" "now" "LWrongWord$Moment;") ow_X7_dismiss_137) rfl dX7_dismiss_46 ?_
          have hs14 : g_X0_keep v 0 ≠ none := fun q => hs (hF.trans (kb_n q _))
          refine km_cV (As := [.ref (Z.1 10 0)]) (rest := []) (n := 1) (q := (RX0, TX0, 3)) (ci := 0) (t := 15) (i := 0) ⟨hx, hb, hml, hown, hts⟩ (d_X0_keep l E Z v 0 (by decide) hs14) gX7_dismiss_X0_keep rfl hV_X0_keep ⟨Nat.le_of_ble_eq_true rfl, Nat.le_of_ble_eq_true rfl⟩ hK hw (by decide) (by decide) rfl rfl rfl hl.1 rfl (Nat.le_of_ble_eq_true rfl) dX7_dismiss_49 rfl rfl (fun v16 H locs hp hw => ?_)
          have hF := hF.trans (kb_some hp _)
          refine lv_aload_n hx hb dX7_dismiss_52 rfl (lv_at hl 0 rfl) ?_
          refine km_get (ci := 7) (C := RX7) (T := TX7) (N := 9) (t := 0) (i := 0) hx hb hts fi_X7_dismiss_X7 hown hK hw (by decide) (by decide) rfl rfl 2 (by decide) (hts (.fieldLink RX7 25 "WrongWord" "gate" "LWrongWord$Gate;") ow_X7_dismiss_25) rfl dX7_dismiss_53 ?_
          refine km_get (ci := 2) (C := RX2) (T := TX2) (N := 8) (t := 6) (i := 0) hx hb hts fi_X7_dismiss_X2 hown hK hw (by decide) (by decide) rfl rfl 3 (by decide) (hts (.fieldLink RX7 137 "WrongWord$Gate" "now" "LWrongWord$Moment;") ow_X7_dismiss_137) rfl dX7_dismiss_56 ?_
          refine lv_dup hx hb dX7_dismiss_59 rfl ?_
          refine km_get (ci := 4) (C := RX4) (T := TX4) (N := 8) (t := 10) (i := 0) hx hb hts fi_X7_dismiss_X4 hown hK hw (by decide) (by decide) rfl rfl 6 (by decide) (hts (.fieldLink RX7 190 "WrongWord$Moment" "there" "I") ow_X7_dismiss_190) rfl dX7_dismiss_60 ?_
          refine lv_iconst (v := 1) hx hb dX7_dismiss_63 (by decide) ?_
          refine lv_iload_n hx hb dX7_dismiss_64 rfl (lv_at hl 1 rfl) ?_
          refine lv_ishl hx hb dX7_dismiss_65 ?_
          refine lv_ixor hx hb dX7_dismiss_66 ?_
          refine km_put (ci := 4) (C := RX4) (T := TX4) (N := 8) (t := 10) (i := 0) hx hb hts fi_X7_dismiss_X4 tyX4 tyX4_ok nmX4 hown hK hw (by decide) (by decide) rfl rfl 6 (by decide) (hts (.fieldLink RX7 190 "WrongWord$Moment" "there" "I") ow_X7_dismiss_190) rfl (by decide +kernel) (Nat.le_of_ble_eq_true rfl) rfl dX7_dismiss_67 (fun H locs hw => ?_)
          obtain ⟨v17, ev17⟩ : ∃ z, z = up3 v16 10 0 6 ((v16 10 0 6) ^^^ ((1 : Int32) <<< (a1 &&& 31))) := ⟨_, rfl⟩
          rw [← ev17] at hw
          have hF := hF.trans (kb_some (congrArg some ev17.symm) _)
          refine lv_aload_n hx hb dX7_dismiss_70 rfl (lv_at hl 0 rfl) ?_
          refine km_get (ci := 7) (C := RX7) (T := TX7) (N := 9) (t := 0) (i := 0) hx hb hts fi_X7_dismiss_X7 hown hK hw (by decide) (by decide) rfl rfl 2 (by decide) (hts (.fieldLink RX7 25 "WrongWord" "gate" "LWrongWord$Gate;") ow_X7_dismiss_25) rfl dX7_dismiss_71 ?_
          refine km_get (ci := 2) (C := RX2) (T := TX2) (N := 8) (t := 6) (i := 0) hx hb hts fi_X7_dismiss_X2 hown hK hw (by decide) (by decide) rfl rfl 3 (by decide) (hts (.fieldLink RX7 137 "WrongWord$Gate" "now" "LWrongWord$Moment;") ow_X7_dismiss_137) rfl dX7_dismiss_74 ?_
          refine km_get (ci := 4) (C := RX4) (T := TX4) (N := 8) (t := 10) (i := 0) hx hb hts fi_X7_dismiss_X4 hown hK hw (by decide) (by decide) rfl rfl 6 (by decide) (hts (.fieldLink RX7 190 "WrongWord$Moment" "there" "I") ow_X7_dismiss_190) rfl dX7_dismiss_77 ?_
          exact hret _ _ _ _ _ _ hw dX7_dismiss_80 hF
        · skip
          have hF := hF.trans (if_pos c13)
          refine lv_ldc (v := (-1000002)) hx hb hown (hts (.constant RX7 136 (-1000002)) ow_X7_dismiss_136) dX7_dismiss_35 ?_
          exact hret _ _ _ _ _ _ hw dX7_dismiss_37 hF
      · skip
        have hF := hF.trans (if_neg c6)
        refine lv_ldc (v := (-1000001)) hx hb hown (hts (.constant RX7 59 (-1000001)) ow_X7_dismiss_59) dX7_dismiss_17 ?_
        exact hret _ _ _ _ _ _ hw dX7_dismiss_19 hF
abbrev rmX7_undo : Room := { frames := 3, cells := 0, slots := 0, locals := 106 }
def g_X7_undo (v : Mm)  : Option (Int32 × Mm) := kb2 (g_X0_takeBack v 0) (fun r2 v3 => if r2 = 0 then (some ((-1000002), v3)) else (some (v3 15 0 2, v3)))
set_option maxHeartbeats 4000000 in
set_option maxRecDepth 100000 in
theorem d_X7_undo (l : Launch) (E : kq_T) (Z : km_Z) (v : Mm) (hs : g_X7_undo v ≠ none) : km_I l E Z cntX yX7_undo wsX7_undo rmX7_undo [.ref (Z.1 0 0)] v (fun r v1 => g_X7_undo v = some (r, v1)) := by
  refine km_goI (cc := cX7_undo) (maxL := 1) (by decide) rfl (Nat.le_of_ble_eq_true rfl) rfl rfl rfl ?_
  intro p e s m below meth c A ls Q C hK hw hl hret
  obtain ⟨hx, hb, hml, hown, hts, -, -, -⟩ := C
  have hown : s.vm.findClass RX7 = some m.cls := hown
  have hl : lv_has ls 1 [(0, .ref (Z.1 0 0))] := hl
  have hF := g_X7_undo.eq_1 v 
  refine lv_aload_n hx hb dX7_undo_0 rfl (lv_at hl 0 rfl) ?_
  refine km_get (ci := 7) (C := RX7) (T := TX7) (N := 9) (t := 0) (i := 0) hx hb hts fi_X7_undo_X7 hown hK hw (by decide) (by decide) rfl rfl 3 (by decide) (hts (.fieldLink RX7 32 "WrongWord" "acts" "LWrongWord$Acts;") ow_X7_undo_32) rfl dX7_undo_1 ?_
  refine lv_aload_n hx hb dX7_undo_4 rfl (lv_at hl 0 rfl) ?_
  refine km_get (ci := 7) (C := RX7) (T := TX7) (N := 9) (t := 0) (i := 0) hx hb hts fi_X7_undo_X7 hown hK hw (by decide) (by decide) rfl rfl 2 (by decide) (hts (.fieldLink RX7 25 "WrongWord" "gate" "LWrongWord$Gate;") ow_X7_undo_25) rfl dX7_undo_5 ?_
  refine km_get (ci := 2) (C := RX2) (T := TX2) (N := 8) (t := 6) (i := 0) hx hb hts fi_X7_undo_X2 hown hK hw (by decide) (by decide) rfl rfl 3 (by decide) (hts (.fieldLink RX7 137 "WrongWord$Gate" "now" "LWrongWord$Moment;") ow_X7_undo_137) rfl dX7_undo_8 ?_
  have hs1 : g_X0_takeBack v 0 ≠ none := fun q => hs (hF.trans (kb2_n q _))
  refine km_cI (As := [.ref (Z.1 10 0)]) (rest := []) (n := 1) (q := (RX0, TX0, 3)) (ci := 0) (t := 15) (i := 0) ⟨hx, hb, hml, hown, hts⟩ (d_X0_takeBack l E Z v 0 (by decide) hs1) gX7_undo_X0_takeBack rfl hV_X0_takeBack ⟨Nat.le_of_ble_eq_true rfl, Nat.le_of_ble_eq_true rfl⟩ hK hw (by decide) (by decide) rfl rfl rfl hl.1 rfl (Nat.le_of_ble_eq_true rfl) dX7_undo_11 rfl rfl (fun r2 v3 H locs hp hw => ?_)
  obtain ⟨hp, hzr2⟩ := hp
  have hF := hF.trans (kb2_some hp _)
  refine lv_if_eq (tgt := 27) hx hb dX7_undo_14 (by decide) (fun c4 => ?_) (fun c4 => ?_)
  · skip
    have hF := hF.trans (if_pos c4)
    refine lv_ldc (v := (-1000002)) hx hb hown (hts (.constant RX7 136 (-1000002)) ow_X7_undo_136) dX7_undo_27 ?_
    exact hret _ _ _ _ _ _ hw dX7_undo_29 hF
  · skip
    have hF := hF.trans (if_neg c4)
    refine lv_aload_n hx hb dX7_undo_17 rfl (lv_at hl 0 rfl) ?_
    refine km_get (ci := 7) (C := RX7) (T := TX7) (N := 9) (t := 0) (i := 0) hx hb hts fi_X7_undo_X7 hown hK hw (by decide) (by decide) rfl rfl 3 (by decide) (hts (.fieldLink RX7 32 "WrongWord" "acts" "LWrongWord$Acts;") ow_X7_undo_32) rfl dX7_undo_18 ?_
    refine km_get (ci := 0) (C := RX0) (T := TX0) (N := 3) (t := 15) (i := 0) hx hb hts fi_X7_undo_X0 hown hK hw (by decide) (by decide) rfl rfl 2 (by decide) (hts (.fieldLink RX7 197 "WrongWord$Acts" "kept" "I") ow_X7_undo_197) rfl dX7_undo_21 ?_
    refine lv_goto (tgt := 29) hx hb dX7_undo_24 (by decide) ?_
    exact hret _ _ _ _ _ _ hw dX7_undo_29 hF
abbrev rmX7_letter : Room := { frames := 1, cells := 0, slots := 0, locals := 21 }
def g_X7_letter (v : Mm) (a1 : Int32) (a2 : Int32) : Option (Int32) := Option.bind (g_X7_isWord v a1) (fun r2 => if r2 = 0 then (some ((-1000001))) else (if a2 < 0 then (some ((-1000001))) else (if a2 < 3 then (if (a1 * 3) + a2 < 0 ∨ 18 ≤ Int32.toNatClampNeg ((a1 * 3) + a2) then none else (some (v 7 0 (Int32.toNatClampNeg ((a1 * 3) + a2))))) else (some ((-1000001))))))
set_option maxHeartbeats 4000000 in
set_option maxRecDepth 100000 in
theorem d_X7_letter (l : Launch) (E : kq_T) (Z : km_Z) (v : Mm) (a1 : Int32) (a2 : Int32) (hs : g_X7_letter v a1 a2 ≠ none) : km_I l E Z cntX yX7_letter wsX7_letter rmX7_letter [.ref (Z.1 0 0), .int a1, .int a2] v (fun r v1 => g_X7_letter v a1 a2 = some r ∧ v = v1) := by
  refine km_goI (cc := cX7_letter) (maxL := 3) (by decide) rfl (Nat.le_of_ble_eq_true rfl) rfl rfl rfl ?_
  intro p e s m below meth c A ls Q C hK hw hl hret
  obtain ⟨hx, hb, hml, hown, hts, -, -, -⟩ := C
  have hown : s.vm.findClass RX7 = some m.cls := hown
  have hl : lv_has ls 3 [(0, .ref (Z.1 0 0)), (1, .int a1), (2, .int a2)] := hl
  have hF := g_X7_letter.eq_1 v a1 a2
  refine lv_aload_n hx hb dX7_letter_0 rfl (lv_at hl 0 rfl) ?_
  refine lv_iload_n hx hb dX7_letter_1 rfl (lv_at hl 1 rfl) ?_
  have hs1 : g_X7_isWord v a1 ≠ none := fun q => hs (hF.trans (kb_n q _))
  refine km_cI (As := [.int a1]) (rest := []) (n := 1) (q := (RX7, TX7, 9)) (ci := 7) (t := 0) (i := 0) ⟨hx, hb, hml, hown, hts⟩ (d_X7_isWord l E Z v a1 hs1) gX7_letter_X7_isWord rfl hV_X7_isWord ⟨Nat.le_of_ble_eq_true rfl, Nat.le_of_ble_eq_true rfl⟩ hK hw (by decide) (by decide) rfl rfl rfl hl.1 rfl (Nat.le_of_ble_eq_true rfl) dX7_letter_2 rfl rfl (fun r2 v3 H locs hp hw => ?_)
  obtain ⟨hp, hzr2⟩ := hp
  obtain ⟨hp, rfl⟩ := hp
  have hF := hF.trans (kb_some hp _)
  refine lv_if_eq (tgt := 17) hx hb dX7_letter_5 (by decide) (fun c4 => ?_) (fun c4 => ?_)
  · skip
    have hF := hF.trans (if_pos c4)
    refine lv_ldc (v := (-1000001)) hx hb hown (hts (.constant RX7 59 (-1000001)) ow_X7_letter_59) dX7_letter_17 ?_
    exact hret _ _ _ _ _ _ hw dX7_letter_19 ⟨hF, rfl⟩
  · skip
    have hF := hF.trans (if_neg c4)
    refine lv_iload_n hx hb dX7_letter_8 rfl (lv_at hl 2 rfl) ?_
    refine lv_if_lt (tgt := 17) hx hb dX7_letter_9 (by decide) (fun c5 => ?_) (fun c5 => ?_)
    · skip
      have hF := hF.trans (if_pos c5)
      refine lv_ldc (v := (-1000001)) hx hb hown (hts (.constant RX7 59 (-1000001)) ow_X7_letter_59) dX7_letter_17 ?_
      exact hret _ _ _ _ _ _ hw dX7_letter_19 ⟨hF, rfl⟩
    · skip
      have hF := hF.trans (if_neg c5)
      refine lv_iload_n hx hb dX7_letter_12 rfl (lv_at hl 2 rfl) ?_
      refine lv_iconst (v := 3) hx hb dX7_letter_13 (by decide) ?_
      refine lv_icmp_lt (tgt := 20) hx hb dX7_letter_14 (by decide) (fun c6 => ?_) (fun c6 => ?_)
      · skip
        have hF := hF.trans (if_pos c6)
        refine lv_aload_n hx hb dX7_letter_20 rfl (lv_at hl 0 rfl) ?_
        refine km_get (ci := 7) (C := RX7) (T := TX7) (N := 9) (t := 0) (i := 0) hx hb hts fi_X7_letter_X7 hown hK hw (by decide) (by decide) rfl rfl 2 (by decide) (hts (.fieldLink RX7 25 "WrongWord" "gate" "LWrongWord$Gate;") ow_X7_letter_25) rfl dX7_letter_21 ?_
        refine km_get (ci := 2) (C := RX2) (T := TX2) (N := 8) (t := 6) (i := 0) hx hb hts fi_X7_letter_X2 hown hK hw (by decide) (by decide) rfl rfl 0 (by decide) (hts (.fieldLink RX7 200 "WrongWord$Gate" "letters" "[I") ow_X7_letter_200) rfl dX7_letter_24 ?_
        refine lv_iload_n hx hb dX7_letter_27 rfl (lv_at hl 1 rfl) ?_
        refine lv_iconst (v := 3) hx hb dX7_letter_28 (by decide) ?_
        refine lv_imul hx hb dX7_letter_29 ?_
        refine lv_iload_n hx hb dX7_letter_30 rfl (lv_at hl 2 rfl) ?_
        refine lv_iadd hx hb dX7_letter_31 ?_
        have hb7 : ¬ ((a1 * 3) + a2 < 0 ∨ 18 ≤ Int32.toNatClampNeg ((a1 * 3) + a2)) := fun q => hs (hF.trans (if_pos q))
        have hF := hF.trans (if_neg hb7)
        refine km_iald (t := 7) (i := 0) hx hb hK hw (by decide) (by decide) rfl hb7 dX7_letter_32 ?_
        exact hret _ _ _ _ _ _ hw dX7_letter_33 ⟨hF, rfl⟩
      · skip
        have hF := hF.trans (if_neg c6)
        refine lv_ldc (v := (-1000001)) hx hb hown (hts (.constant RX7 59 (-1000001)) ow_X7_letter_59) dX7_letter_17 ?_
        exact hret _ _ _ _ _ _ hw dX7_letter_19 ⟨hF, rfl⟩
abbrev rmX7_like : Room := { frames := 1, cells := 0, slots := 0, locals := 24 }
def g_X7_like (v : Mm) (a1 : Int32) (a2 : Int32) (a3 : Int32) : Option (Int32) := Option.bind (g_X7_isWord v a1) (fun r2 => if r2 = 0 then (some ((-1000001))) else (Option.bind (g_X7_isWord v a2) (fun r6 => if r6 = 0 then (some ((-1000001))) else (if a3 < 0 then (some ((-1000001))) else (if a3 ≤ 1 then (if a3 = 0 then (Option.bind (g_X2_distance v 0 a1 a2) (fun r16 => some r16)) else (Option.bind (g_X2_lips v 0 a1 a2) (fun r13 => some r13))) else (some ((-1000001))))))))
set_option maxHeartbeats 4000000 in
set_option maxRecDepth 100000 in
theorem d_X7_like (l : Launch) (E : kq_T) (Z : km_Z) (v : Mm) (a1 : Int32) (a2 : Int32) (a3 : Int32) (hs : g_X7_like v a1 a2 a3 ≠ none) : km_I l E Z cntX yX7_like wsX7_like rmX7_like [.ref (Z.1 0 0), .int a1, .int a2, .int a3] v (fun r v1 => g_X7_like v a1 a2 a3 = some r ∧ v = v1) := by
  refine km_goI (cc := cX7_like) (maxL := 4) (by decide) rfl (Nat.le_of_ble_eq_true rfl) rfl rfl rfl ?_
  intro p e s m below meth c A ls Q C hK hw hl hret
  obtain ⟨hx, hb, hml, hown, hts, -, -, -⟩ := C
  have hown : s.vm.findClass RX7 = some m.cls := hown
  have hl : lv_has ls 4 [(0, .ref (Z.1 0 0)), (1, .int a1), (2, .int a2), (3, .int a3)] := hl
  have hF := g_X7_like.eq_1 v a1 a2 a3
  refine lv_aload_n hx hb dX7_like_0 rfl (lv_at hl 0 rfl) ?_
  refine lv_iload_n hx hb dX7_like_1 rfl (lv_at hl 1 rfl) ?_
  have hs1 : g_X7_isWord v a1 ≠ none := fun q => hs (hF.trans (kb_n q _))
  refine km_cI (As := [.int a1]) (rest := []) (n := 1) (q := (RX7, TX7, 9)) (ci := 7) (t := 0) (i := 0) ⟨hx, hb, hml, hown, hts⟩ (d_X7_isWord l E Z v a1 hs1) gX7_like_X7_isWord rfl hV_X7_isWord ⟨Nat.le_of_ble_eq_true rfl, Nat.le_of_ble_eq_true rfl⟩ hK hw (by decide) (by decide) rfl rfl rfl hl.1 rfl (Nat.le_of_ble_eq_true rfl) dX7_like_2 rfl rfl (fun r2 v3 H locs hp hw => ?_)
  obtain ⟨hp, hzr2⟩ := hp
  obtain ⟨hp, rfl⟩ := hp
  have hF := hF.trans (kb_some hp _)
  refine lv_if_eq (tgt := 25) hx hb dX7_like_5 (by decide) (fun c4 => ?_) (fun c4 => ?_)
  · skip
    have hF := hF.trans (if_pos c4)
    refine lv_ldc (v := (-1000001)) hx hb hown (hts (.constant RX7 59 (-1000001)) ow_X7_like_59) dX7_like_25 ?_
    exact hret _ _ _ _ _ _ hw dX7_like_27 ⟨hF, rfl⟩
  · skip
    have hF := hF.trans (if_neg c4)
    refine lv_aload_n hx hb dX7_like_8 rfl (lv_at hl 0 rfl) ?_
    refine lv_iload_n hx hb dX7_like_9 rfl (lv_at hl 2 rfl) ?_
    have hs5 : g_X7_isWord v a2 ≠ none := fun q => hs (hF.trans (kb_n q _))
    refine km_cI (As := [.int a2]) (rest := []) (n := 1) (q := (RX7, TX7, 9)) (ci := 7) (t := 0) (i := 0) ⟨hx, hb, hml, hown, hts⟩ (d_X7_isWord l E Z v a2 hs5) gX7_like_X7_isWord rfl hV_X7_isWord ⟨Nat.le_of_ble_eq_true rfl, Nat.le_of_ble_eq_true rfl⟩ hK hw (by decide) (by decide) rfl rfl rfl hl.1 rfl (Nat.le_of_ble_eq_true rfl) dX7_like_10 rfl rfl (fun r6 v7 H locs hp hw => ?_)
    obtain ⟨hp, hzr6⟩ := hp
    obtain ⟨hp, rfl⟩ := hp
    have hF := hF.trans (kb_some hp _)
    refine lv_if_eq (tgt := 25) hx hb dX7_like_13 (by decide) (fun c8 => ?_) (fun c8 => ?_)
    · skip
      have hF := hF.trans (if_pos c8)
      refine lv_ldc (v := (-1000001)) hx hb hown (hts (.constant RX7 59 (-1000001)) ow_X7_like_59) dX7_like_25 ?_
      exact hret _ _ _ _ _ _ hw dX7_like_27 ⟨hF, rfl⟩
    · skip
      have hF := hF.trans (if_neg c8)
      refine lv_iload_n hx hb dX7_like_16 rfl (lv_at hl 3 rfl) ?_
      refine lv_if_lt (tgt := 25) hx hb dX7_like_17 (by decide) (fun c9 => ?_) (fun c9 => ?_)
      · skip
        have hF := hF.trans (if_pos c9)
        refine lv_ldc (v := (-1000001)) hx hb hown (hts (.constant RX7 59 (-1000001)) ow_X7_like_59) dX7_like_25 ?_
        exact hret _ _ _ _ _ _ hw dX7_like_27 ⟨hF, rfl⟩
      · skip
        have hF := hF.trans (if_neg c9)
        refine lv_iload_n hx hb dX7_like_20 rfl (lv_at hl 3 rfl) ?_
        refine lv_iconst (v := 1) hx hb dX7_like_21 (by decide) ?_
        refine lv_icmp_le (tgt := 28) hx hb dX7_like_22 (by decide) (fun c10 => ?_) (fun c10 => ?_)
        · skip
          have hF := hF.trans (if_pos c10)
          refine lv_iload_n hx hb dX7_like_28 rfl (lv_at hl 3 rfl) ?_
          refine lv_if_ne (tgt := 44) hx hb dX7_like_29 (by decide) (fun c11 => ?_) (fun c11 => ?_)
          · skip
            have hF := hF.trans (if_neg c11)
            refine lv_aload_n hx hb dX7_like_44 rfl (lv_at hl 0 rfl) ?_
            refine km_get (ci := 7) (C := RX7) (T := TX7) (N := 9) (t := 0) (i := 0) hx hb hts fi_X7_like_X7 hown hK hw (by decide) (by decide) rfl rfl 2 (by decide) (hts (.fieldLink RX7 25 "WrongWord" "gate" "LWrongWord$Gate;") ow_X7_like_25) rfl dX7_like_45 ?_
            refine lv_iload_n hx hb dX7_like_48 rfl (lv_at hl 1 rfl) ?_
            refine lv_iload_n hx hb dX7_like_49 rfl (lv_at hl 2 rfl) ?_
            have hs12 : g_X2_lips v 0 a1 a2 ≠ none := fun q => hs (hF.trans (kb_n q _))
            refine km_cI (As := [.int a1, .int a2]) (rest := []) (n := 2) (q := (RX2, TX2, 8)) (ci := 2) (t := 6) (i := 0) ⟨hx, hb, hml, hown, hts⟩ (d_X2_lips l E Z v 0 (by decide) a1 a2 hs12) gX7_like_X2_lips rfl hV_X2_lips ⟨Nat.le_of_ble_eq_true rfl, Nat.le_of_ble_eq_true rfl⟩ hK hw (by decide) (by decide) rfl rfl rfl hl.1 rfl (Nat.le_of_ble_eq_true rfl) dX7_like_50 rfl rfl (fun r13 v14 H locs hp hw => ?_)
            obtain ⟨hp, rfl⟩ := hp
            have hF := hF.trans (kb_some hp _)
            exact hret _ _ _ _ _ _ hw dX7_like_53 ⟨hF, rfl⟩
          · skip
            have hF := hF.trans (if_pos c11)
            refine lv_aload_n hx hb dX7_like_32 rfl (lv_at hl 0 rfl) ?_
            refine km_get (ci := 7) (C := RX7) (T := TX7) (N := 9) (t := 0) (i := 0) hx hb hts fi_X7_like_X7 hown hK hw (by decide) (by decide) rfl rfl 2 (by decide) (hts (.fieldLink RX7 25 "WrongWord" "gate" "LWrongWord$Gate;") ow_X7_like_25) rfl dX7_like_33 ?_
            refine lv_iload_n hx hb dX7_like_36 rfl (lv_at hl 1 rfl) ?_
            refine lv_iload_n hx hb dX7_like_37 rfl (lv_at hl 2 rfl) ?_
            have hs15 : g_X2_distance v 0 a1 a2 ≠ none := fun q => hs (hF.trans (kb_n q _))
            refine km_cI (As := [.int a1, .int a2]) (rest := []) (n := 2) (q := (RX2, TX2, 8)) (ci := 2) (t := 6) (i := 0) ⟨hx, hb, hml, hown, hts⟩ (d_X2_distance l E Z v 0 (by decide) a1 a2 hs15) gX7_like_X2_distance rfl hV_X2_distance ⟨Nat.le_of_ble_eq_true rfl, Nat.le_of_ble_eq_true rfl⟩ hK hw (by decide) (by decide) rfl rfl rfl hl.1 rfl (Nat.le_of_ble_eq_true rfl) dX7_like_38 rfl rfl (fun r16 v17 H locs hp hw => ?_)
            obtain ⟨hp, rfl⟩ := hp
            have hF := hF.trans (kb_some hp _)
            refine lv_goto (tgt := 53) hx hb dX7_like_41 (by decide) ?_
            exact hret _ _ _ _ _ _ hw dX7_like_53 ⟨hF, rfl⟩
        · skip
          have hF := hF.trans (if_neg c10)
          refine lv_ldc (v := (-1000001)) hx hb hown (hts (.constant RX7 59 (-1000001)) ow_X7_like_59) dX7_like_25 ?_
          exact hret _ _ _ _ _ _ hw dX7_like_27 ⟨hF, rfl⟩
