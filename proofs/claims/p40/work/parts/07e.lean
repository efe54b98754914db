abbrev rmX8_secret : Room := { frames := 2, cells := 0, slots := 0, locals := 42 }
def g_X8_secret (v : Mm) (a1 : Int32) : Option (Int32) := Option.bind (g_X8_isGate v) (fun r2 => if r2 = 0 then (some ((-1000002))) else (Option.bind (g_X8_isFar v a1) (fun r6 => if r6 = 0 then (some ((-1000001))) else (Option.bind (g_X8_secretOf_36 v ((v 36 0 (Int32.toNatClampNeg 5)) + a1)) (fun r10 => some r10)))))
set_option maxHeartbeats 4000000 in
set_option maxRecDepth 100000 in
theorem d_X8_secret (l : Launch) (E : kq_T) (Z : km_Z) (v : Mm) (a1 : Int32) (hs : g_X8_secret v a1 ≠ none) : km_I l E Z cntM yX8_secret wsX8_secret rmX8_secret [.ref (Z.1 30 0), .int a1] v (fun r v1 => g_X8_secret v a1 = some r ∧ v = v1) := by
  refine km_goI (cc := cX8_secret) (maxL := 2) (by decide) rfl (Nat.le_of_ble_eq_true rfl) rfl rfl rfl ?_
  intro p e s m below meth c A ls Q C hK hw hl hret
  obtain ⟨hx, hb, hml, hown, hts, -, -, -⟩ := C
  have hown : s.vm.findClass RX8 = some m.cls := hown
  have hl : lv_has ls 2 [(0, .ref (Z.1 30 0)), (1, .int a1)] := hl
  have hF := g_X8_secret.eq_1 v a1
  refine lv_aload_n hx hb dX8_secret_0 rfl (lv_at hl 0 rfl) ?_
  have hs1 : g_X8_isGate v ≠ none := fun q => hs (hF.trans (kb_n q _))
  refine km_cI (As := []) (rest := []) (n := 0) (q := (RX8, TX8, 23)) (ci := 8) (t := 30) (i := 0) ⟨hx, hb, hml, hown, hts⟩ (d_X8_isGate l E Z v  hs1) gX8_secret_X8_isGate rfl hV_X8_isGate ⟨Nat.le_of_ble_eq_true rfl, Nat.le_of_ble_eq_true rfl⟩ hK hw (by decide) (by decide) rfl rfl rfl hl.1 rfl (Nat.le_of_ble_eq_true rfl) dX8_secret_1 rfl rfl (fun r2 v3 H locs hp hw => ?_)
  obtain ⟨hp, hzr2⟩ := hp
  obtain ⟨hp, rfl⟩ := hp
  have hF := hF.trans (kb_some hp _)
  refine lv_if_ne (tgt := 10) hx hb dX8_secret_4 (by decide) (fun c4 => ?_) (fun c4 => ?_)
  · skip
    have hF := hF.trans (if_neg c4)
    refine lv_iload_n hx hb dX8_secret_10 rfl (lv_at hl 1 rfl) ?_
    have hs5 : g_X8_isFar v a1 ≠ none := fun q => hs (hF.trans (kb_n q _))
    refine km_cS (As := [.int a1]) (rest := []) (n := 1) ⟨hx, hb, hml, hown, hts⟩ (d_X8_isFar l E Z v a1 hs5) gX8_secret_X8_isFar rfl hV_X8_isFar ⟨Nat.le_of_ble_eq_true rfl, Nat.le_of_ble_eq_true rfl⟩ hK hw rfl hl.1 rfl (Nat.le_of_ble_eq_true rfl) dX8_secret_11 rfl rfl (fun r6 v7 H locs hp hw => ?_)
    obtain ⟨hp, hzr6⟩ := hp
    obtain ⟨hp, rfl⟩ := hp
    have hF := hF.trans (kb_some hp _)
    refine lv_if_eq (tgt := 35) hx hb dX8_secret_14 (by decide) (fun c8 => ?_) (fun c8 => ?_)
    · skip
      have hF := hF.trans (if_pos c8)
      refine lv_ldc (v := (-1000001)) hx hb hown (hts (.constant RX8 64 (-1000001)) ow_X8_secret_64) dX8_secret_35 ?_
      exact hret _ _ _ _ _ _ hw dX8_secret_37 ⟨hF, rfl⟩
    · skip
      have hF := hF.trans (if_neg c8)
      refine lv_aload_n hx hb dX8_secret_17 rfl (lv_at hl 0 rfl) ?_
      refine km_get (ci := 8) (C := RX8) (T := TX8) (N := 23) (t := 30) (i := 0) hx hb hts fi_X8_secret_X8 hown hK hw (by decide) (by decide) rfl rfl 13 (by decide) (hts (.fieldLink RX8 25 "WrongWordModel" "now" "[I") ow_X8_secret_25) rfl dX8_secret_18 ?_
      refine lv_aload_n hx hb dX8_secret_21 rfl (lv_at hl 0 rfl) ?_
      refine km_get (ci := 8) (C := RX8) (T := TX8) (N := 23) (t := 30) (i := 0) hx hb hts fi_X8_secret_X8 hown hK hw (by decide) (by decide) rfl rfl 13 (by decide) (hts (.fieldLink RX8 25 "WrongWordModel" "now" "[I") ow_X8_secret_25) rfl dX8_secret_22 ?_
      refine lv_iconst (v := 5) hx hb dX8_secret_25 (by decide) ?_
      refine km_iald (t := 36) (i := 0) hx hb hK hw (by decide) (by decide) rfl (by unfold vp_in; decide) dX8_secret_26 ?_
      refine lv_iload_n hx hb dX8_secret_27 rfl (lv_at hl 1 rfl) ?_
      refine lv_iadd hx hb dX8_secret_28 ?_
      have hs9 : g_X8_secretOf_36 v ((v 36 0 (Int32.toNatClampNeg 5)) + a1) ≠ none := fun q => hs (hF.trans (kb_n q _))
      refine km_cS (As := [.ref (Z.1 36 0), .int ((v 36 0 (Int32.toNatClampNeg 5)) + a1)]) (rest := []) (n := 2) ⟨hx, hb, hml, hown, hts⟩ (d_X8_secretOf_36 l E Z v ((v 36 0 (Int32.toNatClampNeg 5)) + a1) hs9) gX8_secret_X8_secretOf rfl hV_X8_secretOf ⟨Nat.le_of_ble_eq_true rfl, Nat.le_of_ble_eq_true rfl⟩ hK hw rfl hl.1 rfl (Nat.le_of_ble_eq_true rfl) dX8_secret_29 rfl rfl (fun r10 v11 H locs hp hw => ?_)
      obtain ⟨hp, rfl⟩ := hp
      have hF := hF.trans (kb_some hp _)
      refine lv_goto (tgt := 37) hx hb dX8_secret_32 (by decide) ?_
      exact hret _ _ _ _ _ _ hw dX8_secret_37 ⟨hF, rfl⟩
  · skip
    have hF := hF.trans (if_pos c4)
    refine lv_ldc (v := (-1000002)) hx hb hown (hts (.constant RX8 183 (-1000002)) ow_X8_secret_183) dX8_secret_7 ?_
    exact hret _ _ _ _ _ _ hw dX8_secret_9 ⟨hF, rfl⟩
abbrev rmX8_taken : Room := { frames := 4, cells := 0, slots := 0, locals := 98 }
def g_X8_taken (v : Mm) (a1 : Int32) (a2 : Int32) (a3 : Int32) : Option (Int32) := Option.bind (g_X8_isWord v a1) (fun r2 => if r2 = 0 then (some ((-1000001))) else (Option.bind (g_X8_isHour v a2) (fun r6 => if r6 = 0 then (some ((-1000001))) else (Option.bind (g_X8_isFar v a3) (fun r10 => if r10 = 0 then (some ((-1000001))) else (Option.bind (g_X8_isTakenNow v a1 a2 a3) (fun r14 => if r14 = 0 then (some 0) else (some 1))))))))
set_option maxHeartbeats 4000000 in
set_option maxRecDepth 100000 in
theorem d_X8_taken (l : Launch) (E : kq_T) (Z : km_Z) (v : Mm) (a1 : Int32) (a2 : Int32) (a3 : Int32) (hs : g_X8_taken v a1 a2 a3 ≠ none) : km_I l E Z cntM yX8_taken wsX8_taken rmX8_taken [.ref (Z.1 30 0), .int a1, .int a2, .int a3] v (fun r v1 => g_X8_taken v a1 a2 a3 = some r ∧ v = v1) := by
  refine km_goI (cc := cX8_taken) (maxL := 4) (by decide) rfl (Nat.le_of_ble_eq_true rfl) rfl rfl rfl ?_
  intro p e s m below meth c A ls Q C hK hw hl hret
  obtain ⟨hx, hb, hml, hown, hts, -, -, -⟩ := C
  have hown : s.vm.findClass RX8 = some m.cls := hown
  have hl : lv_has ls 4 [(0, .ref (Z.1 30 0)), (1, .int a1), (2, .int a2), (3, .int a3)] := hl
  have hF := g_X8_taken.eq_1 v a1 a2 a3
  refine lv_aload_n hx hb dX8_taken_0 rfl (lv_at hl 0 rfl) ?_
  refine lv_iload_n hx hb dX8_taken_1 rfl (lv_at hl 1 rfl) ?_
  have hs1 : g_X8_isWord v a1 ≠ none := fun q => hs (hF.trans (kb_n q _))
  refine km_cI (As := [.int a1]) (rest := []) (n := 1) (q := (RX8, TX8, 23)) (ci := 8) (t := 30) (i := 0) ⟨hx, hb, hml, hown, hts⟩ (d_X8_isWord l E Z v a1 hs1) gX8_taken_X8_isWord rfl hV_X8_isWord ⟨Nat.le_of_ble_eq_true rfl, Nat.le_of_ble_eq_true rfl⟩ hK hw (by decide) (by decide) rfl rfl rfl hl.1 rfl (Nat.le_of_ble_eq_true rfl) dX8_taken_2 rfl rfl (fun r2 v3 H locs hp hw => ?_)
  obtain ⟨hp, hzr2⟩ := hp
  obtain ⟨hp, rfl⟩ := hp
  have hF := hF.trans (kb_some hp _)
  refine lv_if_eq (tgt := 22) hx hb dX8_taken_5 (by decide) (fun c4 => ?_) (fun c4 => ?_)
  · skip
    have hF := hF.trans (if_pos c4)
    refine lv_ldc (v := (-1000001)) hx hb hown (hts (.constant RX8 64 (-1000001)) ow_X8_taken_64) dX8_taken_22 ?_
    exact hret _ _ _ _ _ _ hw dX8_taken_24 ⟨hF, rfl⟩
  · skip
    have hF := hF.trans (if_neg c4)
    refine lv_iload_n hx hb dX8_taken_8 rfl (lv_at hl 2 rfl) ?_
    have hs5 : g_X8_isHour v a2 ≠ none := fun q => hs (hF.trans (kb_n q _))
    refine km_cS (As := [.int a2]) (rest := []) (n := 1) ⟨hx, hb, hml, hown, hts⟩ (d_X8_isHour l E Z v a2 hs5) gX8_taken_X8_isHour rfl hV_X8_isHour ⟨Nat.le_of_ble_eq_true rfl, Nat.le_of_ble_eq_true rfl⟩ hK hw rfl hl.1 rfl (Nat.le_of_ble_eq_true rfl) dX8_taken_9 rfl rfl (fun r6 v7 H locs hp hw => ?_)
    obtain ⟨hp, hzr6⟩ := hp
    obtain ⟨hp, rfl⟩ := hp
    have hF := hF.trans (kb_some hp _)
    refine lv_if_eq (tgt := 22) hx hb dX8_taken_12 (by decide) (fun c8 => ?_) (fun c8 => ?_)
    · skip
      have hF := hF.trans (if_pos c8)
      refine lv_ldc (v := (-1000001)) hx hb hown (hts (.constant RX8 64 (-1000001)) ow_X8_taken_64) dX8_taken_22 ?_
      exact hret _ _ _ _ _ _ hw dX8_taken_24 ⟨hF, rfl⟩
    · skip
      have hF := hF.trans (if_neg c8)
      refine lv_iload_n hx hb dX8_taken_15 rfl (lv_at hl 3 rfl) ?_
      have hs9 : g_X8_isFar v a3 ≠ none := fun q => hs (hF.trans (kb_n q _))
      refine km_cS (As := [.int a3]) (rest := []) (n := 1) ⟨hx, hb, hml, hown, hts⟩ (d_X8_isFar l E Z v a3 hs9) gX8_taken_X8_isFar rfl hV_X8_isFar ⟨Nat.le_of_ble_eq_true rfl, Nat.le_of_ble_eq_true rfl⟩ hK hw rfl hl.1 rfl (Nat.le_of_ble_eq_true rfl) dX8_taken_16 rfl rfl (fun r10 v11 H locs hp hw => ?_)
      obtain ⟨hp, hzr10⟩ := hp
      obtain ⟨hp, rfl⟩ := hp
      have hF := hF.trans (kb_some hp _)
      refine lv_if_ne (tgt := 25) hx hb dX8_taken_19 (by decide) (fun c12 => ?_) (fun c12 => ?_)
      · skip
        have hF := hF.trans (if_neg c12)
        refine lv_aload_n hx hb dX8_taken_25 rfl (lv_at hl 0 rfl) ?_
        refine lv_iload_n hx hb dX8_taken_26 rfl (lv_at hl 1 rfl) ?_
        refine lv_iload_n hx hb dX8_taken_27 rfl (lv_at hl 2 rfl) ?_
        refine lv_iload_n hx hb dX8_taken_28 rfl (lv_at hl 3 rfl) ?_
        have hs13 : g_X8_isTakenNow v a1 a2 a3 ≠ none := fun q => hs (hF.trans (kb_n q _))
        refine km_cI (As := [.int a1, .int a2, .int a3]) (rest := []) (n := 3) (q := (RX8, TX8, 23)) (ci := 8) (t := 30) (i := 0) ⟨hx, hb, hml, hown, hts⟩ (d_X8_isTakenNow l E Z v a1 a2 a3 hs13) gX8_taken_X8_isTakenNow rfl hV_X8_isTakenNow ⟨Nat.le_of_ble_eq_true rfl, Nat.le_of_ble_eq_true rfl⟩ hK hw (by decide) (by decide) rfl rfl rfl hl.1 rfl (Nat.le_of_ble_eq_true rfl) dX8_taken_29 rfl rfl (fun r14 v15 H locs hp hw => ?_)
        obtain ⟨hp, hzr14⟩ := hp
        obtain ⟨hp, rfl⟩ := hp
        have hF := hF.trans (kb_some hp _)
        refine lv_if_eq (tgt := 39) hx hb dX8_taken_32 (by decide) (fun c16 => ?_) (fun c16 => ?_)
        · skip
          have hF := hF.trans (if_pos c16)
          refine lv_iconst (v := 0) hx hb dX8_taken_39 (by decide) ?_
          exact hret _ _ _ _ _ _ hw dX8_taken_40 ⟨hF, rfl⟩
        · skip
          have hF := hF.trans (if_neg c16)
          refine lv_iconst (v := 1) hx hb dX8_taken_35 (by decide) ?_
          refine lv_goto (tgt := 40) hx hb dX8_taken_36 (by decide) ?_
          exact hret _ _ _ _ _ _ hw dX8_taken_40 ⟨hF, rfl⟩
      · skip
        have hF := hF.trans (if_pos c12)
        refine lv_ldc (v := (-1000001)) hx hb hown (hts (.constant RX8 64 (-1000001)) ow_X8_taken_64) dX8_taken_22 ?_
        exact hret _ _ _ _ _ _ hw dX8_taken_24 ⟨hF, rfl⟩
abbrev rmX8_safe : Room := { frames := 4, cells := 0, slots := 0, locals := 98 }
def b_X8_safe_L32  (rec32 : Int32 → Int32 → Option (Int32)) (v : Mm) (a1 : Int32) (a2 : Int32) (x3_32 : Int32) (x4_32 : Int32) : Option (Int32) := if v 36 0 (Int32.toNatClampNeg 3) ≤ x4_32 then (some x3_32) else (Option.bind (g_X8_isTakenNow v x4_32 a1 a2) (fun r15 => if r15 = 0 then (Option.bind (some (x3_32 ||| ((1 : Int32) <<< (x4_32 &&& 31)))) (fun x18 => rec32 x18 (x4_32 + 1))) else (rec32 (x3_32 ||| 0) (x4_32 + 1))))
def g_X8_safe_L32  (v : Mm) (a1 : Int32) (a2 : Int32) : Nat → Int32 → Int32 → Option (Int32)
  | 0 => fun _ _ => none
  | n + 1 => b_X8_safe_L32  (g_X8_safe_L32  v a1 a2 n) v a1 a2
def g_X8_safe (v : Mm) (a1 : Int32) (a2 : Int32) : Option (Int32) := Option.bind (g_X8_isGate v) (fun r2 => if r2 = 0 then (some ((-1000002))) else (Option.bind (g_X8_isHour v a1) (fun r6 => if r6 = 0 then (some ((-1000001))) else (Option.bind (g_X8_isFar v a2) (fun r10 => if r10 = 0 then (some ((-1000001))) else (g_X8_safe_L32  v a1 a2 2000 0 0))))))
set_option maxHeartbeats 4000000 in
set_option maxRecDepth 100000 in
theorem d_X8_safe (l : Launch) (E : kq_T) (Z : km_Z) (v : Mm) (a1 : Int32) (a2 : Int32) (hs : g_X8_safe v a1 a2 ≠ none) : km_I l E Z cntM yX8_safe wsX8_safe rmX8_safe [.ref (Z.1 30 0), .int a1, .int a2] v (fun r v1 => g_X8_safe v a1 a2 = some r ∧ v = v1) := by
  refine km_goI (cc := cX8_safe) (maxL := 5) (by decide) rfl (Nat.le_of_ble_eq_true rfl) rfl rfl rfl ?_
  intro p e s m below meth c A ls Q C hK hw hl hret
  obtain ⟨hx, hb, hml, hown, hts, -, -, -⟩ := C
  have hown : s.vm.findClass RX8 = some m.cls := hown
  have hl : lv_has ls 5 [(0, .ref (Z.1 30 0)), (1, .int a1), (2, .int a2)] := hl
  have hF := g_X8_safe.eq_1 v a1 a2
  have loop32 : ∀ (n32 : Nat) (x3_32 : Int32) (x4_32 : Int32) (H : Heap) (locs : List Loc) (ls : Array Slot), g_X8_safe v a1 a2 = g_X8_safe_L32  v a1 a2 n32 x3_32 x4_32 → km_w E A s.heap [] Z cntM v H locs → lv_has ls 5 [(0, .ref (Z.1 30 0)), (1, .int a1), (2, .int a2), (3, .int x3_32), (4, .int x4_32)] → W p l e rmX8_safe s m [.ref (Z.1 30 0), .int a1, .int a2].toArray below meth c H locs 0 0 Q (F0 m 32 ls []) := by
    intro n32
    induction n32 with
    | zero => intro x3_32 x4_32 H locs ls hF hw hl; exact absurd (show g_X8_safe v a1 a2 = none from hF) hs
    | succ n32 ih32 =>
      intro x3_32 x4_32 H locs ls hF hw hl
      have hF := hF.trans (b_X8_safe_L32.eq_1  (g_X8_safe_L32  v a1 a2 n32) v a1 a2 x3_32 x4_32)
      refine lv_iload hx hb dX8_safe_32 (lv_at hl 4 rfl) ?_
      refine lv_aload_n hx hb dX8_safe_34 rfl (lv_at hl 0 rfl) ?_
      refine km_get (ci := 8) (C := RX8) (T := TX8) (N := 23) (t := 30) (i := 0) hx hb hts fi_X8_safe_X8 hown hK hw (by decide) (by decide) rfl rfl 13 (by decide) (hts (.fieldLink RX8 25 "WrongWordModel" "now" "[I") ow_X8_safe_25) rfl dX8_safe_35 ?_
      refine lv_iconst (v := 3) hx hb dX8_safe_38 (by decide) ?_
      refine km_iald (t := 36) (i := 0) hx hb hK hw (by decide) (by decide) rfl (by unfold vp_in; decide) dX8_safe_39 ?_
      refine lv_icmp_ge (tgt := 71) hx hb dX8_safe_40 (by decide) (fun c1 => ?_) (fun c1 => ?_)
      · skip
        have hF := hF.trans (if_pos c1)
        refine lv_iload_n hx hb dX8_safe_71 rfl (lv_at hl 3 rfl) ?_
        exact hret _ _ _ _ _ _ hw dX8_safe_72 ⟨hF, rfl⟩
      · skip
        have hF := hF.trans (if_neg c1)
        refine lv_iload_n hx hb dX8_safe_43 rfl (lv_at hl 3 rfl) ?_
        refine lv_aload_n hx hb dX8_safe_44 rfl (lv_at hl 0 rfl) ?_
        refine lv_iload hx hb dX8_safe_45 (lv_at hl 4 rfl) ?_
        refine lv_iload_n hx hb dX8_safe_47 rfl (lv_at hl 1 rfl) ?_
        refine lv_iload_n hx hb dX8_safe_48 rfl (lv_at hl 2 rfl) ?_
        have hs2 : g_X8_isTakenNow v x4_32 a1 a2 ≠ none := fun q => hs (hF.trans (kb_n q _))
        refine km_cI (As := [.int x4_32, .int a1, .int a2]) (rest := [.int x3_32]) (n := 3) (q := (RX8, TX8, 23)) (ci := 8) (t := 30) (i := 0) ⟨hx, hb, hml, hown, hts⟩ (d_X8_isTakenNow l E Z v x4_32 a1 a2 hs2) gX8_safe_X8_isTakenNow rfl hV_X8_isTakenNow ⟨Nat.le_of_ble_eq_true rfl, Nat.le_of_ble_eq_true rfl⟩ hK hw (by decide) (by decide) rfl rfl rfl hl.1 rfl (Nat.le_of_ble_eq_true rfl) dX8_safe_49 rfl rfl (fun r3 v4 H locs hp hw => ?_)
        obtain ⟨hp, hzr3⟩ := hp
        obtain ⟨hp, rfl⟩ := hp
        have hF := hF.trans (kb_some hp _)
        refine lv_if_eq (tgt := 59) hx hb dX8_safe_52 (by decide) (fun c5 => ?_) (fun c5 => ?_)
        · skip
          have hF := hF.trans (if_pos c5)
          refine lv_iconst (v := 1) hx hb dX8_safe_59 (by decide) ?_
          refine lv_iload hx hb dX8_safe_60 (lv_at hl 4 rfl) ?_
          refine lv_ishl hx hb dX8_safe_62 ?_
          refine lv_ior hx hb dX8_safe_63 ?_
          refine lv_topi (fun x6 ex6 => ?_)
          have hF := hF.trans (kb_some (congrArg some ex6.symm) _)
          refine lv_istore_n (lv' := [(3, .int x6), (0, .ref (Z.1 30 0)), (1, .int a1), (2, .int a2), (4, .int x4_32)]) hx hb dX8_safe_64 rfl hl (by decide) rfl (fun ls hl => ?_)
          refine lv_iinc (v := x4_32 + 1) (lv' := [(4, .int (x4_32 + 1)), (3, .int x6), (0, .ref (Z.1 30 0)), (1, .int a1), (2, .int a2)]) hx hb dX8_safe_65 hl (k := 4) rfl rfl (by decide) rfl (fun ls hl => ?_)
          refine lv_goto (tgt := 32) hx hb dX8_safe_68 (by decide) ?_
          have hl := lv_sub (l' := [(0, .ref (Z.1 30 0)), (1, .int a1), (2, .int a2), (3, .int x6), (4, .int (x4_32 + 1))]) hl [2, 3, 4, 1, 0] rfl
          exact ih32 x6 (x4_32 + 1) _ _ _ hF hw hl
        · skip
          have hF := hF.trans (if_neg c5)
          refine lv_iconst (v := 0) hx hb dX8_safe_55 (by decide) ?_
          refine lv_goto (tgt := 63) hx hb dX8_safe_56 (by decide) ?_
          refine lv_ior hx hb dX8_safe_63 ?_
          refine lv_istore_n (lv' := [(3, .int (x3_32 ||| 0)), (0, .ref (Z.1 30 0)), (1, .int a1), (2, .int a2), (4, .int x4_32)]) hx hb dX8_safe_64 rfl hl (by decide) rfl (fun ls hl => ?_)
          refine lv_iinc (v := x4_32 + 1) (lv' := [(4, .int (x4_32 + 1)), (3, .int (x3_32 ||| 0)), (0, .ref (Z.1 30 0)), (1, .int a1), (2, .int a2)]) hx hb dX8_safe_65 hl (k := 4) rfl rfl (by decide) rfl (fun ls hl => ?_)
          refine lv_goto (tgt := 32) hx hb dX8_safe_68 (by decide) ?_
          have hl := lv_sub (l' := [(0, .ref (Z.1 30 0)), (1, .int a1), (2, .int a2), (3, .int (x3_32 ||| 0)), (4, .int (x4_32 + 1))]) hl [2, 3, 4, 1, 0] rfl
          exact ih32 (x3_32 ||| 0) (x4_32 + 1) _ _ _ hF hw hl
  refine lv_aload_n hx hb dX8_safe_0 rfl (lv_at hl 0 rfl) ?_
  have hs7 : g_X8_isGate v ≠ none := fun q => hs (hF.trans (kb_n q _))
  refine km_cI (As := []) (rest := []) (n := 0) (q := (RX8, TX8, 23)) (ci := 8) (t := 30) (i := 0) ⟨hx, hb, hml, hown, hts⟩ (d_X8_isGate l E Z v  hs7) gX8_safe_X8_isGate rfl hV_X8_isGate ⟨Nat.le_of_ble_eq_true rfl, Nat.le_of_ble_eq_true rfl⟩ hK hw (by decide) (by decide) rfl rfl rfl hl.1 rfl (Nat.le_of_ble_eq_true rfl) dX8_safe_1 rfl rfl (fun r8 v9 H locs hp hw => ?_)
  obtain ⟨hp, hzr8⟩ := hp
  obtain ⟨hp, rfl⟩ := hp
  have hF := hF.trans (kb_some hp _)
  refine lv_if_ne (tgt := 10) hx hb dX8_safe_4 (by decide) (fun c10 => ?_) (fun c10 => ?_)
  · skip
    have hF := hF.trans (if_neg c10)
    refine lv_iload_n hx hb dX8_safe_10 rfl (lv_at hl 1 rfl) ?_
    have hs11 : g_X8_isHour v a1 ≠ none := fun q => hs (hF.trans (kb_n q _))
    refine km_cS (As := [.int a1]) (rest := []) (n := 1) ⟨hx, hb, hml, hown, hts⟩ (d_X8_isHour l E Z v a1 hs11) gX8_safe_X8_isHour rfl hV_X8_isHour ⟨Nat.le_of_ble_eq_true rfl, Nat.le_of_ble_eq_true rfl⟩ hK hw rfl hl.1 rfl (Nat.le_of_ble_eq_true rfl) dX8_safe_11 rfl rfl (fun r12 v13 H locs hp hw => ?_)
    obtain ⟨hp, hzr12⟩ := hp
    obtain ⟨hp, rfl⟩ := hp
    have hF := hF.trans (kb_some hp _)
    refine lv_if_eq (tgt := 24) hx hb dX8_safe_14 (by decide) (fun c14 => ?_) (fun c14 => ?_)
    · skip
      have hF := hF.trans (if_pos c14)
      refine lv_ldc (v := (-1000001)) hx hb hown (hts (.constant RX8 64 (-1000001)) ow_X8_safe_64) dX8_safe_24 ?_
      exact hret _ _ _ _ _ _ hw dX8_safe_26 ⟨hF, rfl⟩
    · skip
      have hF := hF.trans (if_neg c14)
      refine lv_iload_n hx hb dX8_safe_17 rfl (lv_at hl 2 rfl) ?_
      have hs15 : g_X8_isFar v a2 ≠ none := fun q => hs (hF.trans (kb_n q _))
      refine km_cS (As := [.int a2]) (rest := []) (n := 1) ⟨hx, hb, hml, hown, hts⟩ (d_X8_isFar l E Z v a2 hs15) gX8_safe_X8_isFar rfl hV_X8_isFar ⟨Nat.le_of_ble_eq_true rfl, Nat.le_of_ble_eq_true rfl⟩ hK hw rfl hl.1 rfl (Nat.le_of_ble_eq_true rfl) dX8_safe_18 rfl rfl (fun r16 v17 H locs hp hw => ?_)
      obtain ⟨hp, hzr16⟩ := hp
      obtain ⟨hp, rfl⟩ := hp
      have hF := hF.trans (kb_some hp _)
      refine lv_if_ne (tgt := 27) hx hb dX8_safe_21 (by decide) (fun c18 => ?_) (fun c18 => ?_)
      · skip
        have hF := hF.trans (if_neg c18)
        refine lv_iconst (v := 0) hx hb dX8_safe_27 (by decide) ?_
        refine lv_istore_n (lv' := [(3, .int 0), (0, .ref (Z.1 30 0)), (1, .int a1), (2, .int a2)]) hx hb dX8_safe_28 rfl hl (by decide) rfl (fun ls hl => ?_)
        refine lv_iconst (v := 0) hx hb dX8_safe_29 (by decide) ?_
        refine lv_istore (lv' := [(4, .int 0), (3, .int 0), (0, .ref (Z.1 30 0)), (1, .int a1), (2, .int a2)]) hx hb dX8_safe_30 hl (by decide) rfl (fun ls hl => ?_)
        have hl := lv_sub (l' := [(0, .ref (Z.1 30 0)), (1, .int a1), (2, .int a2), (3, .int 0), (4, .int 0)]) hl [2, 3, 4, 1, 0] rfl
        exact loop32 2000 0 0 _ _ _ hF hw hl
      · skip
        have hF := hF.trans (if_pos c18)
        refine lv_ldc (v := (-1000001)) hx hb hown (hts (.constant RX8 64 (-1000001)) ow_X8_safe_64) dX8_safe_24 ?_
        exact hret _ _ _ _ _ _ hw dX8_safe_26 ⟨hF, rfl⟩
  · skip
    have hF := hF.trans (if_pos c10)
    refine lv_ldc (v := (-1000002)) hx hb hown (hts (.constant RX8 183 (-1000002)) ow_X8_safe_183) dX8_safe_7 ?_
    exact hret _ _ _ _ _ _ hw dX8_safe_9 ⟨hF, rfl⟩
abbrev rmX8_areIn : Room := { frames := 3, cells := 0, slots := 0, locals := 74 }
def b_X8_areIn_L16  (rec16 : Int32 → Int32 → Int32 → Option (Int32)) (v : Mm) (a1 : Int32) (a2 : Int32) (a3 : Int32) (a4 : Int32) (x5_16 : Int32) (x6_16 : Int32) (x7_16 : Int32) : Option (Int32) := if v 36 0 (Int32.toNatClampNeg 3) ≤ x7_16 then (some x6_16) else (if x6_16 = 0 then (rec16 x5_16 0 (x7_16 + 1)) else (Option.bind (g_X8_has v a1 x7_16) (fun r5 => if r5 = 0 then (rec16 x5_16 1 (x7_16 + 1)) else (Option.bind (g_X8_secretOf_36 v x5_16) (fun r9 => Option.bind (g_X8_isTaken v x7_16 a2 x5_16 a4 r9) (fun r12 => if r12 = 0 then (rec16 x5_16 1 (x7_16 + 1)) else (rec16 x5_16 0 (x7_16 + 1))))))))
def g_X8_areIn_L16  (v : Mm) (a1 : Int32) (a2 : Int32) (a3 : Int32) (a4 : Int32) : Nat → Int32 → Int32 → Int32 → Option (Int32)
  | 0 => fun _ _ _ => none
  | n + 1 => b_X8_areIn_L16  (g_X8_areIn_L16  v a1 a2 a3 a4 n) v a1 a2 a3 a4
def g_X8_areIn (v : Mm) (a1 : Int32) (a2 : Int32) (a3 : Int32) (a4 : Int32) : Option (Int32) := Option.bind (some ((v 36 0 (Int32.toNatClampNeg 5)) + a3)) (fun x1 => g_X8_areIn_L16  v a1 a2 a3 a4 2000 x1 1 0)
set_option maxHeartbeats 4000000 in
set_option maxRecDepth 100000 in
theorem d_X8_areIn (l : Launch) (E : kq_T) (Z : km_Z) (v : Mm) (a1 : Int32) (a2 : Int32) (a3 : Int32) (a4 : Int32) (hs : g_X8_areIn v a1 a2 a3 a4 ≠ none) : km_I l E Z cntM yX8_areIn wsX8_areIn rmX8_areIn [.ref (Z.1 30 0), .int a1, .int a2, .int a3, .int a4] v (fun r v1 => (g_X8_areIn v a1 a2 a3 a4 = some r ∧ v = v1) ∧ (r = 0 ∨ r = 1)) := by
  refine km_goZ (cc := cX8_areIn) (maxL := 8) (post := fun r v1 => g_X8_areIn v a1 a2 a3 a4 = some r ∧ v = v1) (by decide) rfl (Nat.le_of_ble_eq_true rfl) rfl rfl rfl ?_
  intro p e s m below meth c A ls Q C hK hw hl hret
  obtain ⟨hx, hb, hml, hown, hts, -, -, -⟩ := C
  have hown : s.vm.findClass RX8 = some m.cls := hown
  have hl : lv_has ls 8 [(0, .ref (Z.1 30 0)), (1, .int a1), (2, .int a2), (3, .int a3), (4, .int a4)] := hl
  have hF := g_X8_areIn.eq_1 v a1 a2 a3 a4
  have loop16 : ∀ (n16 : Nat) (x5_16 : Int32) (x6_16 : Int32) (x7_16 : Int32) (H : Heap) (locs : List Loc) (ls : Array Slot), g_X8_areIn v a1 a2 a3 a4 = g_X8_areIn_L16  v a1 a2 a3 a4 n16 x5_16 x6_16 x7_16 → km_w E A s.heap [] Z cntM v H locs → lv_has ls 8 [(0, .ref (Z.1 30 0)), (1, .int a1), (2, .int a2), (3, .int a3), (4, .int a4), (5, .int x5_16), (6, .int x6_16), (7, .int x7_16)] → (x6_16 = 0 ∨ x6_16 = 1) → W p l e rmX8_areIn s m [.ref (Z.1 30 0), .int a1, .int a2, .int a3, .int a4].toArray below meth c H locs 0 0 Q (F0 m 16 ls []) := by
    intro n16
    induction n16 with
    | zero => intro x5_16 x6_16 x7_16 H locs ls hF hw hl hz6_16; exact absurd (show g_X8_areIn v a1 a2 a3 a4 = none from hF) hs
    | succ n16 ih16 =>
      intro x5_16 x6_16 x7_16 H locs ls hF hw hl hz6_16
      have hF := hF.trans (b_X8_areIn_L16.eq_1  (g_X8_areIn_L16  v a1 a2 a3 a4 n16) v a1 a2 a3 a4 x5_16 x6_16 x7_16)
      refine lv_iload hx hb dX8_areIn_16 (lv_at hl 7 rfl) ?_
      refine lv_aload_n hx hb dX8_areIn_18 rfl (lv_at hl 0 rfl) ?_
      refine km_get (ci := 8) (C := RX8) (T := TX8) (N := 23) (t := 30) (i := 0) hx hb hts fi_X8_areIn_X8 hown hK hw (by decide) (by decide) rfl rfl 13 (by decide) (hts (.fieldLink RX8 25 "WrongWordModel" "now" "[I") ow_X8_areIn_25) rfl dX8_areIn_19 ?_
      refine lv_iconst (v := 3) hx hb dX8_areIn_22 (by decide) ?_
      refine km_iald (t := 36) (i := 0) hx hb hK hw (by decide) (by decide) rfl (by unfold vp_in; decide) dX8_areIn_23 ?_
      refine lv_icmp_ge (tgt := 77) hx hb dX8_areIn_24 (by decide) (fun c1 => ?_) (fun c1 => ?_)
      · skip
        have hF := hF.trans (if_pos c1)
        refine lv_iload hx hb dX8_areIn_77 (lv_at hl 6 rfl) ?_
        exact hret _ _ _ _ _ _ hw dX8_areIn_79 hz6_16 ⟨hF, rfl⟩
      · skip
        have hF := hF.trans (if_neg c1)
        refine lv_iload hx hb dX8_areIn_27 (lv_at hl 6 rfl) ?_
        refine lv_if_eq (tgt := 68) hx hb dX8_areIn_29 (by decide) (fun c2 => ?_) (fun c2 => ?_)
        · skip
          have hF := hF.trans (if_pos c2)
          refine lv_iconst (v := 0) hx hb dX8_areIn_68 (by decide) ?_
          refine lv_istore (lv' := [(6, .int 0), (0, .ref (Z.1 30 0)), (1, .int a1), (2, .int a2), (3, .int a3), (4, .int a4), (5, .int x5_16), (7, .int x7_16)]) hx hb dX8_areIn_69 hl (by decide) rfl (fun ls hl => ?_)
          refine lv_iinc (v := x7_16 + 1) (lv' := [(7, .int (x7_16 + 1)), (6, .int 0), (0, .ref (Z.1 30 0)), (1, .int a1), (2, .int a2), (3, .int a3), (4, .int a4), (5, .int x5_16)]) hx hb dX8_areIn_71 hl (k := 7) rfl rfl (by decide) rfl (fun ls hl => ?_)
          refine lv_goto (tgt := 16) hx hb dX8_areIn_74 (by decide) ?_
          have hl := lv_sub (l' := [(0, .ref (Z.1 30 0)), (1, .int a1), (2, .int a2), (3, .int a3), (4, .int a4), (5, .int x5_16), (6, .int 0), (7, .int (x7_16 + 1))]) hl [2, 3, 4, 5, 6, 7, 1, 0] rfl
          exact ih16 x5_16 0 (x7_16 + 1) _ _ _ hF hw hl (Or.inl rfl)
        · skip
          have hF := hF.trans (if_neg c2)
          refine lv_iload_n hx hb dX8_areIn_32 rfl (lv_at hl 1 rfl) ?_
          refine lv_iload hx hb dX8_areIn_33 (lv_at hl 7 rfl) ?_
          have hs3 : g_X8_has v a1 x7_16 ≠ none := fun q => hs (hF.trans (kb_n q _))
          refine km_cS (As := [.int a1, .int x7_16]) (rest := []) (n := 2) ⟨hx, hb, hml, hown, hts⟩ (d_X8_has l E Z v a1 x7_16 hs3) gX8_areIn_X8_has rfl hV_X8_has ⟨Nat.le_of_ble_eq_true rfl, Nat.le_of_ble_eq_true rfl⟩ hK hw rfl hl.1 rfl (Nat.le_of_ble_eq_true rfl) dX8_areIn_35 rfl rfl (fun r4 v5 H locs hp hw => ?_)
          obtain ⟨hp, hzr4⟩ := hp
          obtain ⟨hp, rfl⟩ := hp
          have hF := hF.trans (kb_some hp _)
          refine lv_if_eq (tgt := 64) hx hb dX8_areIn_38 (by decide) (fun c6 => ?_) (fun c6 => ?_)
          · skip
            have hF := hF.trans (if_pos c6)
            refine lv_iconst (v := 1) hx hb dX8_areIn_64 (by decide) ?_
            refine lv_goto (tgt := 69) hx hb dX8_areIn_65 (by decide) ?_
            refine lv_istore (lv' := [(6, .int 1), (0, .ref (Z.1 30 0)), (1, .int a1), (2, .int a2), (3, .int a3), (4, .int a4), (5, .int x5_16), (7, .int x7_16)]) hx hb dX8_areIn_69 hl (by decide) rfl (fun ls hl => ?_)
            refine lv_iinc (v := x7_16 + 1) (lv' := [(7, .int (x7_16 + 1)), (6, .int 1), (0, .ref (Z.1 30 0)), (1, .int a1), (2, .int a2), (3, .int a3), (4, .int a4), (5, .int x5_16)]) hx hb dX8_areIn_71 hl (k := 7) rfl rfl (by decide) rfl (fun ls hl => ?_)
            refine lv_goto (tgt := 16) hx hb dX8_areIn_74 (by decide) ?_
            have hl := lv_sub (l' := [(0, .ref (Z.1 30 0)), (1, .int a1), (2, .int a2), (3, .int a3), (4, .int a4), (5, .int x5_16), (6, .int 1), (7, .int (x7_16 + 1))]) hl [2, 3, 4, 5, 6, 7, 1, 0] rfl
            exact ih16 x5_16 1 (x7_16 + 1) _ _ _ hF hw hl (Or.inr rfl)
          · skip
            have hF := hF.trans (if_neg c6)
            refine lv_aload_n hx hb dX8_areIn_41 rfl (lv_at hl 0 rfl) ?_
            refine lv_iload hx hb dX8_areIn_42 (lv_at hl 7 rfl) ?_
            refine lv_iload_n hx hb dX8_areIn_44 rfl (lv_at hl 2 rfl) ?_
            refine lv_iload hx hb dX8_areIn_45 (lv_at hl 5 rfl) ?_
            refine lv_iload hx hb dX8_areIn_47 (lv_at hl 4 rfl) ?_
            refine lv_aload_n hx hb dX8_areIn_49 rfl (lv_at hl 0 rfl) ?_
            refine km_get (ci := 8) (C := RX8) (T := TX8) (N := 23) (t := 30) (i := 0) hx hb hts fi_X8_areIn_X8 hown hK hw (by decide) (by decide) rfl rfl 13 (by decide) (hts (.fieldLink RX8 25 "WrongWordModel" "now" "[I") ow_X8_areIn_25) rfl dX8_areIn_50 ?_
            refine lv_iload hx hb dX8_areIn_53 (lv_at hl 5 rfl) ?_
            have hs7 : g_X8_secretOf_36 v x5_16 ≠ none := fun q => hs (hF.trans (kb_n q _))
            refine km_cS (As := [.ref (Z.1 36 0), .int x5_16]) (rest := [.int a4, .int x5_16, .int a2, .int x7_16, .ref (Z.1 30 0)]) (n := 2) ⟨hx, hb, hml, hown, hts⟩ (d_X8_secretOf_36 l E Z v x5_16 hs7) gX8_areIn_X8_secretOf rfl hV_X8_secretOf ⟨Nat.le_of_ble_eq_true rfl, Nat.le_of_ble_eq_true rfl⟩ hK hw rfl hl.1 rfl (Nat.le_of_ble_eq_true rfl) dX8_areIn_55 rfl rfl (fun r8 v9 H locs hp hw => ?_)
            obtain ⟨hp, rfl⟩ := hp
            have hF := hF.trans (kb_some hp _)
            have hs10 : g_X8_isTaken v x7_16 a2 x5_16 a4 r8 ≠ none := fun q => hs (hF.trans (kb_n q _))
            refine km_cI (As := [.int x7_16, .int a2, .int x5_16, .int a4, .int r8]) (rest := []) (n := 5) (q := (RX8, TX8, 23)) (ci := 8) (t := 30) (i := 0) ⟨hx, hb, hml, hown, hts⟩ (d_X8_isTaken l E Z v x7_16 a2 x5_16 a4 r8 hs10) gX8_areIn_X8_isTaken rfl hV_X8_isTaken ⟨Nat.le_of_ble_eq_true rfl, Nat.le_of_ble_eq_true rfl⟩ hK hw (by decide) (by decide) rfl rfl rfl hl.1 rfl (Nat.le_of_ble_eq_true rfl) dX8_areIn_58 rfl rfl (fun r11 v12 H locs hp hw => ?_)
            obtain ⟨hp, hzr11⟩ := hp
            obtain ⟨hp, rfl⟩ := hp
            have hF := hF.trans (kb_some hp _)
            refine lv_if_ne (tgt := 68) hx hb dX8_areIn_61 (by decide) (fun c13 => ?_) (fun c13 => ?_)
            · skip
              have hF := hF.trans (if_neg c13)
              refine lv_iconst (v := 0) hx hb dX8_areIn_68 (by decide) ?_
              refine lv_istore (lv' := [(6, .int 0), (0, .ref (Z.1 30 0)), (1, .int a1), (2, .int a2), (3, .int a3), (4, .int a4), (5, .int x5_16), (7, .int x7_16)]) hx hb dX8_areIn_69 hl (by decide) rfl (fun ls hl => ?_)
              refine lv_iinc (v := x7_16 + 1) (lv' := [(7, .int (x7_16 + 1)), (6, .int 0), (0, .ref (Z.1 30 0)), (1, .int a1), (2, .int a2), (3, .int a3), (4, .int a4), (5, .int x5_16)]) hx hb dX8_areIn_71 hl (k := 7) rfl rfl (by decide) rfl (fun ls hl => ?_)
              refine lv_goto (tgt := 16) hx hb dX8_areIn_74 (by decide) ?_
              have hl := lv_sub (l' := [(0, .ref (Z.1 30 0)), (1, .int a1), (2, .int a2), (3, .int a3), (4, .int a4), (5, .int x5_16), (6, .int 0), (7, .int (x7_16 + 1))]) hl [2, 3, 4, 5, 6, 7, 1, 0] rfl
              exact ih16 x5_16 0 (x7_16 + 1) _ _ _ hF hw hl (Or.inl rfl)
            · skip
              have hF := hF.trans (if_pos c13)
              refine lv_iconst (v := 1) hx hb dX8_areIn_64 (by decide) ?_
              refine lv_goto (tgt := 69) hx hb dX8_areIn_65 (by decide) ?_
              refine lv_istore (lv' := [(6, .int 1), (0, .ref (Z.1 30 0)), (1, .int a1), (2, .int a2), (3, .int a3), (4, .int a4), (5, .int x5_16), (7, .int x7_16)]) hx hb dX8_areIn_69 hl (by decide) rfl (fun ls hl => ?_)
              refine lv_iinc (v := x7_16 + 1) (lv' := [(7, .int (x7_16 + 1)), (6, .int 1), (0, .ref (Z.1 30 0)), (1, .int a1), (2, .int a2), (3, .int a3), (4, .int a4), (5, .int x5_16)]) hx hb dX8_areIn_71 hl (k := 7) rfl rfl (by decide) rfl (fun ls hl => ?_)
              refine lv_goto (tgt := 16) hx hb dX8_areIn_74 (by decide) ?_
              have hl := lv_sub (l' := [(0, .ref (Z.1 30 0)), (1, .int a1), (2, .int a2), (3, .int a3), (4, .int a4), (5, .int x5_16), (6, .int 1), (7, .int (x7_16 + 1))]) hl [2, 3, 4, 5, 6, 7, 1, 0] rfl
              exact ih16 x5_16 1 (x7_16 + 1) _ _ _ hF hw hl (Or.inr rfl)
  refine lv_aload_n hx hb dX8_areIn_0 rfl (lv_at hl 0 rfl) ?_
  refine km_get (ci := 8) (C := RX8) (T := TX8) (N := 23) (t := 30) (i := 0) hx hb hts fi_X8_areIn_X8 hown hK hw (by decide) (by decide) rfl rfl 13 (by decide) (hts (.fieldLink RX8 25 "WrongWordModel" "now" "[I") ow_X8_areIn_25) rfl dX8_areIn_1 ?_
  refine lv_iconst (v := 5) hx hb dX8_areIn_4 (by decide) ?_
  refine km_iald (t := 36) (i := 0) hx hb hK hw (by decide) (by decide) rfl (by unfold vp_in; decide) dX8_areIn_5 ?_
  refine lv_iload_n hx hb dX8_areIn_6 rfl (lv_at hl 3 rfl) ?_
  refine lv_iadd hx hb dX8_areIn_7 ?_
  refine lv_topi (fun x14 ex14 => ?_)
  have hF := hF.trans (kb_some (congrArg some ex14.symm) _)
  refine lv_istore (lv' := [(5, .int x14), (0, .ref (Z.1 30 0)), (1, .int a1), (2, .int a2), (3, .int a3), (4, .int a4)]) hx hb dX8_areIn_8 hl (by decide) rfl (fun ls hl => ?_)
  refine lv_iconst (v := 1) hx hb dX8_areIn_10 (by decide) ?_
  refine lv_istore (lv' := [(6, .int 1), (5, .int x14), (0, .ref (Z.1 30 0)), (1, .int a1), (2, .int a2), (3, .int a3), (4, .int a4)]) hx hb dX8_areIn_11 hl (by decide) rfl (fun ls hl => ?_)
  refine lv_iconst (v := 0) hx hb dX8_areIn_13 (by decide) ?_
  refine lv_istore (lv' := [(7, .int 0), (6, .int 1), (5, .int x14), (0, .ref (Z.1 30 0)), (1, .int a1), (2, .int a2), (3, .int a3), (4, .int a4)]) hx hb dX8_areIn_14 hl (by decide) rfl (fun ls hl => ?_)
  have hl := lv_sub (l' := [(0, .ref (Z.1 30 0)), (1, .int a1), (2, .int a2), (3, .int a3), (4, .int a4), (5, .int x14), (6, .int 1), (7, .int 0)]) hl [3, 4, 5, 6, 7, 2, 1, 0] rfl
  exact loop16 2000 x14 1 0 _ _ _ hF hw hl (Or.inr rfl)
abbrev rmX8_open : Room := { frames := 4, cells := 0, slots := 0, locals := 101 }
def b_X8_open_L33  (rec33 : Int32 → Int32 → Option (Int32)) (v : Mm) (a1 : Int32) (a2 : Int32) (x3_33 : Int32) (x4_33 : Int32) : Option (Int32) := if 6 ≤ x4_33 then (some x3_33) else (Option.bind (g_X8_areIn v a1 x4_33 a2 (v 36 0 (Int32.toNatClampNeg 6))) (fun r15 => if r15 = 0 then (rec33 (x3_33 ||| 0) (x4_33 + 1)) else (Option.bind (some (x3_33 ||| ((1 : Int32) <<< (x4_33 &&& 31)))) (fun x18 => rec33 x18 (x4_33 + 1)))))
def g_X8_open_L33  (v : Mm) (a1 : Int32) (a2 : Int32) : Nat → Int32 → Int32 → Option (Int32)
  | 0 => fun _ _ => none
  | n + 1 => b_X8_open_L33  (g_X8_open_L33  v a1 a2 n) v a1 a2
def g_X8_open (v : Mm) (a1 : Int32) (a2 : Int32) : Option (Int32) := Option.bind (g_X8_isGate v) (fun r2 => if r2 = 0 then (some ((-1000002))) else (Option.bind (g_X8_areWords v a1) (fun r6 => if r6 = 0 then (some ((-1000001))) else (Option.bind (g_X8_isFar v a2) (fun r10 => if r10 = 0 then (some ((-1000001))) else (g_X8_open_L33  v a1 a2 2000 0 0))))))
set_option maxHeartbeats 4000000 in
set_option maxRecDepth 100000 in
theorem d_X8_open (l : Launch) (E : kq_T) (Z : km_Z) (v : Mm) (a1 : Int32) (a2 : Int32) (hs : g_X8_open v a1 a2 ≠ none) : km_I l E Z cntM yX8_open wsX8_open rmX8_open [.ref (Z.1 30 0), .int a1, .int a2] v (fun r v1 => g_X8_open v a1 a2 = some r ∧ v = v1) := by
  refine km_goI (cc := cX8_open) (maxL := 5) (by decide) rfl (Nat.le_of_ble_eq_true rfl) rfl rfl rfl ?_
  intro p e s m below meth c A ls Q C hK hw hl hret
  obtain ⟨hx, hb, hml, hown, hts, -, -, -⟩ := C
  have hown : s.vm.findClass RX8 = some m.cls := hown
  have hl : lv_has ls 5 [(0, .ref (Z.1 30 0)), (1, .int a1), (2, .int a2)] := hl
  have hF := g_X8_open.eq_1 v a1 a2
  have loop33 : ∀ (n33 : Nat) (x3_33 : Int32) (x4_33 : Int32) (H : Heap) (locs : List Loc) (ls : Array Slot), g_X8_open v a1 a2 = g_X8_open_L33  v a1 a2 n33 x3_33 x4_33 → km_w E A s.heap [] Z cntM v H locs → lv_has ls 5 [(0, .ref (Z.1 30 0)), (1, .int a1), (2, .int a2), (3, .int x3_33), (4, .int x4_33)] → W p l e rmX8_open s m [.ref (Z.1 30 0), .int a1, .int a2].toArray below meth c H locs 0 0 Q (F0 m 33 ls []) := by
    intro n33
    induction n33 with
    | zero => intro x3_33 x4_33 H locs ls hF hw hl; exact absurd (show g_X8_open v a1 a2 = none from hF) hs
    | succ n33 ih33 =>
      intro x3_33 x4_33 H locs ls hF hw hl
      have hF := hF.trans (b_X8_open_L33.eq_1  (g_X8_open_L33  v a1 a2 n33) v a1 a2 x3_33 x4_33)
      refine lv_iload hx hb dX8_open_33 (lv_at hl 4 rfl) ?_
      refine lv_bipush (v := 6) hx hb dX8_open_35 (by decide) ?_
      refine lv_icmp_ge (tgt := 75) hx hb dX8_open_37 (by decide) (fun c1 => ?_) (fun c1 => ?_)
      · skip
        have hF := hF.trans (if_pos c1)
        refine lv_iload_n hx hb dX8_open_75 rfl (lv_at hl 3 rfl) ?_
        exact hret _ _ _ _ _ _ hw dX8_open_76 ⟨hF, rfl⟩
      · skip
        have hF := hF.trans (if_neg c1)
        refine lv_iload_n hx hb dX8_open_40 rfl (lv_at hl 3 rfl) ?_
        refine lv_aload_n hx hb dX8_open_41 rfl (lv_at hl 0 rfl) ?_
        refine lv_iload_n hx hb dX8_open_42 rfl (lv_at hl 1 rfl) ?_
        refine lv_iload hx hb dX8_open_43 (lv_at hl 4 rfl) ?_
        refine lv_iload_n hx hb dX8_open_45 rfl (lv_at hl 2 rfl) ?_
        refine lv_aload_n hx hb dX8_open_46 rfl (lv_at hl 0 rfl) ?_
        refine km_get (ci := 8) (C := RX8) (T := TX8) (N := 23) (t := 30) (i := 0) hx hb hts fi_X8_open_X8 hown hK hw (by decide) (by decide) rfl rfl 13 (by decide) (hts (.fieldLink RX8 25 "WrongWordModel" "now" "[I") ow_X8_open_25) rfl dX8_open_47 ?_
        refine lv_bipush (v := 6) hx hb dX8_open_50 (by decide) ?_
        refine km_iald (t := 36) (i := 0) hx hb hK hw (by decide) (by decide) rfl (by unfold vp_in; decide) dX8_open_52 ?_
        have hs2 : g_X8_areIn v a1 x4_33 a2 (v 36 0 (Int32.toNatClampNeg 6)) ≠ none := fun q => hs (hF.trans (kb_n q _))
        refine km_cI (As := [.int a1, .int x4_33, .int a2, .int (v 36 0 (Int32.toNatClampNeg 6))]) (rest := [.int x3_33]) (n := 4) (q := (RX8, TX8, 23)) (ci := 8) (t := 30) (i := 0) ⟨hx, hb, hml, hown, hts⟩ (d_X8_areIn l E Z v a1 x4_33 a2 (v 36 0 (Int32.toNatClampNeg 6)) hs2) gX8_open_X8_areIn rfl hV_X8_areIn ⟨Nat.le_of_ble_eq_true rfl, Nat.le_of_ble_eq_true rfl⟩ hK hw (by decide) (by decide) rfl rfl rfl hl.1 rfl (Nat.le_of_ble_eq_true rfl) dX8_open_53 rfl rfl (fun r3 v4 H locs hp hw => ?_)
        obtain ⟨hp, hzr3⟩ := hp
        obtain ⟨hp, rfl⟩ := hp
        have hF := hF.trans (kb_some hp _)
        refine lv_if_eq (tgt := 66) hx hb dX8_open_56 (by decide) (fun c5 => ?_) (fun c5 => ?_)
        · skip
          have hF := hF.trans (if_pos c5)
          refine lv_iconst (v := 0) hx hb dX8_open_66 (by decide) ?_
          refine lv_ior hx hb dX8_open_67 ?_
          refine lv_istore_n (lv' := [(3, .int (x3_33 ||| 0)), (0, .ref (Z.1 30 0)), (1, .int a1), (2, .int a2), (4, .int x4_33)]) hx hb dX8_open_68 rfl hl (by decide) rfl (fun ls hl => ?_)
          refine lv_iinc (v := x4_33 + 1) (lv' := [(4, .int (x4_33 + 1)), (3, .int (x3_33 ||| 0)), (0, .ref (Z.1 30 0)), (1, .int a1), (2, .int a2)]) hx hb dX8_open_69 hl (k := 4) rfl rfl (by decide) rfl (fun ls hl => ?_)
          refine lv_goto (tgt := 33) hx hb dX8_open_72 (by decide) ?_
          have hl := lv_sub (l' := [(0, .ref (Z.1 30 0)), (1, .int a1), (2, .int a2), (3, .int (x3_33 ||| 0)), (4, .int (x4_33 + 1))]) hl [2, 3, 4, 1, 0] rfl
          exact ih33 (x3_33 ||| 0) (x4_33 + 1) _ _ _ hF hw hl
        · skip
          have hF := hF.trans (if_neg c5)
          refine lv_iconst (v := 1) hx hb dX8_open_59 (by decide) ?_
          refine lv_iload hx hb dX8_open_60 (lv_at hl 4 rfl) ?_
          refine lv_ishl hx hb dX8_open_62 ?_
          refine lv_goto (tgt := 67) hx hb dX8_open_63 (by decide) ?_
          refine lv_ior hx hb dX8_open_67 ?_
          refine lv_topi (fun x6 ex6 => ?_)
          have hF := hF.trans (kb_some (congrArg some ex6.symm) _)
          refine lv_istore_n (lv' := [(3, .int x6), (0, .ref (Z.1 30 0)), (1, .int a1), (2, .int a2), (4, .int x4_33)]) hx hb dX8_open_68 rfl hl (by decide) rfl (fun ls hl => ?_)
          refine lv_iinc (v := x4_33 + 1) (lv' := [(4, .int (x4_33 + 1)), (3, .int x6), (0, .ref (Z.1 30 0)), (1, .int a1), (2, .int a2)]) hx hb dX8_open_69 hl (k := 4) rfl rfl (by decide) rfl (fun ls hl => ?_)
          refine lv_goto (tgt := 33) hx hb dX8_open_72 (by decide) ?_
          have hl := lv_sub (l' := [(0, .ref (Z.1 30 0)), (1, .int a1), (2, .int a2), (3, .int x6), (4, .int (x4_33 + 1))]) hl [2, 3, 4, 1, 0] rfl
          exact ih33 x6 (x4_33 + 1) _ _ _ hF hw hl
  refine lv_aload_n hx hb dX8_open_0 rfl (lv_at hl 0 rfl) ?_
  have hs7 : g_X8_isGate v ≠ none := fun q => hs (hF.trans (kb_n q _))
  refine km_cI (As := []) (rest := []) (n := 0) (q := (RX8, TX8, 23)) (ci := 8) (t := 30) (i := 0) ⟨hx, hb, hml, hown, hts⟩ (d_X8_isGate l E Z v  hs7) gX8_open_X8_isGate rfl hV_X8_isGate ⟨Nat.le_of_ble_eq_true rfl, Nat.le_of_ble_eq_true rfl⟩ hK hw (by decide) (by decide) rfl rfl rfl hl.1 rfl (Nat.le_of_ble_eq_true rfl) dX8_open_1 rfl rfl (fun r8 v9 H locs hp hw => ?_)
  obtain ⟨hp, hzr8⟩ := hp
  obtain ⟨hp, rfl⟩ := hp
  have hF := hF.trans (kb_some hp _)
  refine lv_if_ne (tgt := 10) hx hb dX8_open_4 (by decide) (fun c10 => ?_) (fun c10 => ?_)
  · skip
    have hF := hF.trans (if_neg c10)
    refine lv_aload_n hx hb dX8_open_10 rfl (lv_at hl 0 rfl) ?_
    refine lv_iload_n hx hb dX8_open_11 rfl (lv_at hl 1 rfl) ?_
    have hs11 : g_X8_areWords v a1 ≠ none := fun q => hs (hF.trans (kb_n q _))
    refine km_cI (As := [.int a1]) (rest := []) (n := 1) (q := (RX8, TX8, 23)) (ci := 8) (t := 30) (i := 0) ⟨hx, hb, hml, hown, hts⟩ (d_X8_areWords l E Z v a1 hs11) gX8_open_X8_areWords rfl hV_X8_areWords ⟨Nat.le_of_ble_eq_true rfl, Nat.le_of_ble_eq_true rfl⟩ hK hw (by decide) (by decide) rfl rfl rfl hl.1 rfl (Nat.le_of_ble_eq_true rfl) dX8_open_12 rfl rfl (fun r12 v13 H locs hp hw => ?_)
    obtain ⟨hp, hzr12⟩ := hp
    obtain ⟨hp, rfl⟩ := hp
    have hF := hF.trans (kb_some hp _)
    refine lv_if_eq (tgt := 25) hx hb dX8_open_15 (by decide) (fun c14 => ?_) (fun c14 => ?_)
    · skip
      have hF := hF.trans (if_pos c14)
      refine lv_ldc (v := (-1000001)) hx hb hown (hts (.constant RX8 64 (-1000001)) ow_X8_open_64) dX8_open_25 ?_
      exact hret _ _ _ _ _ _ hw dX8_open_27 ⟨hF, rfl⟩
    · skip
      have hF := hF.trans (if_neg c14)
      refine lv_iload_n hx hb dX8_open_18 rfl (lv_at hl 2 rfl) ?_
      have hs15 : g_X8_isFar v a2 ≠ none := fun q => hs (hF.trans (kb_n q _))
      refine km_cS (As := [.int a2]) (rest := []) (n := 1) ⟨hx, hb, hml, hown, hts⟩ (d_X8_isFar l E Z v a2 hs15) gX8_open_X8_isFar rfl hV_X8_isFar ⟨Nat.le_of_ble_eq_true rfl, Nat.le_of_ble_eq_true rfl⟩ hK hw rfl hl.1 rfl (Nat.le_of_ble_eq_true rfl) dX8_open_19 rfl rfl (fun r16 v17 H locs hp hw => ?_)
      obtain ⟨hp, hzr16⟩ := hp
      obtain ⟨hp, rfl⟩ := hp
      have hF := hF.trans (kb_some hp _)
      refine lv_if_ne (tgt := 28) hx hb dX8_open_22 (by decide) (fun c18 => ?_) (fun c18 => ?_)
      · skip
        have hF := hF.trans (if_neg c18)
        refine lv_iconst (v := 0) hx hb dX8_open_28 (by decide) ?_
        refine lv_istore_n (lv' := [(3, .int 0), (0, .ref (Z.1 30 0)), (1, .int a1), (2, .int a2)]) hx hb dX8_open_29 rfl hl (by decide) rfl (fun ls hl => ?_)
        refine lv_iconst (v := 0) hx hb dX8_open_30 (by decide) ?_
        refine lv_istore (lv' := [(4, .int 0), (3, .int 0), (0, .ref (Z.1 30 0)), (1, .int a1), (2, .int a2)]) hx hb dX8_open_31 hl (by decide) rfl (fun ls hl => ?_)
        have hl := lv_sub (l' := [(0, .ref (Z.1 30 0)), (1, .int a1), (2, .int a2), (3, .int 0), (4, .int 0)]) hl [2, 3, 4, 1, 0] rfl
        exact loop33 2000 0 0 _ _ _ hF hw hl
      · skip
        have hF := hF.trans (if_pos c18)
        refine lv_ldc (v := (-1000001)) hx hb hown (hts (.constant RX8 64 (-1000001)) ow_X8_open_64) dX8_open_25 ?_
        exact hret _ _ _ _ _ _ hw dX8_open_27 ⟨hF, rfl⟩
  · skip
    have hF := hF.trans (if_pos c10)
    refine lv_ldc (v := (-1000002)) hx hb hown (hts (.constant RX8 183 (-1000002)) ow_X8_open_183) dX8_open_7 ?_
    exact hret _ _ _ _ _ _ hw dX8_open_9 ⟨hF, rfl⟩
abbrev rmX8_next : Room := { frames := 2, cells := 0, slots := 0, locals := 43 }
def b_X8_next_L13  (rec13 : Int32 → Option (Int32)) (v : Mm) (a1 : Int32) (x2_13 : Int32) : Option (Int32) := if 61 ≤ x2_13 then (some ((-1000000))) else (Option.bind (g_X8_secretOf_36 v ((v 36 0 (Int32.toNatClampNeg 5)) + x2_13)) (fun r7 => if r7 = a1 then (some x2_13) else (rec13 (x2_13 + 1))))
def g_X8_next_L13  (v : Mm) (a1 : Int32) : Nat → Int32 → Option (Int32)
  | 0 => fun _ => none
  | n + 1 => b_X8_next_L13  (g_X8_next_L13  v a1 n) v a1
def g_X8_next (v : Mm) (a1 : Int32) : Option (Int32) := Option.bind (g_X8_isWord v a1) (fun r2 => if r2 = 0 then (some ((-1000001))) else (g_X8_next_L13  v a1 2000 0))
set_option maxHeartbeats 4000000 in
set_option maxRecDepth 100000 in
theorem d_X8_next (l : Launch) (E : kq_T) (Z : km_Z) (v : Mm) (a1 : Int32) (hs : g_X8_next v a1 ≠ none) : km_I l E Z cntM yX8_next wsX8_next rmX8_next [.ref (Z.1 30 0), .int a1] v (fun r v1 => g_X8_next v a1 = some r ∧ v = v1) := by
  refine km_goI (cc := cX8_next) (maxL := 3) (by decide) rfl (Nat.le_of_ble_eq_true rfl) rfl rfl rfl ?_
  intro p e s m below meth c A ls Q C hK hw hl hret
  obtain ⟨hx, hb, hml, hown, hts, -, -, -⟩ := C
  have hown : s.vm.findClass RX8 = some m.cls := hown
  have hl : lv_has ls 3 [(0, .ref (Z.1 30 0)), (1, .int a1)] := hl
  have hF := g_X8_next.eq_1 v a1
  have loop13 : ∀ (n13 : Nat) (x2_13 : Int32) (H : Heap) (locs : List Loc) (ls : Array Slot), g_X8_next v a1 = g_X8_next_L13  v a1 n13 x2_13 → km_w E A s.heap [] Z cntM v H locs → lv_has ls 3 [(0, .ref (Z.1 30 0)), (1, .int a1), (2, .int x2_13)] → W p l e rmX8_next s m [.ref (Z.1 30 0), .int a1].toArray below meth c H locs 0 0 Q (F0 m 13 ls []) := by
    intro n13
    induction n13 with
    | zero => intro x2_13 H locs ls hF hw hl; exact absurd (show g_X8_next v a1 = none from hF) hs
    | succ n13 ih13 =>
      intro x2_13 H locs ls hF hw hl
      have hF := hF.trans (b_X8_next_L13.eq_1  (g_X8_next_L13  v a1 n13) v a1 x2_13)
      refine lv_iload_n hx hb dX8_next_13 rfl (lv_at hl 2 rfl) ?_
      refine lv_bipush (v := 61) hx hb dX8_next_14 (by decide) ?_
      refine lv_icmp_ge (tgt := 46) hx hb dX8_next_16 (by decide) (fun c1 => ?_) (fun c1 => ?_)
      · skip
        have hF := hF.trans (if_pos c1)
        refine lv_ldc (v := (-1000000)) hx hb hown (hts (.constant RX8 50 (-1000000)) ow_X8_next_50) dX8_next_46 ?_
        exact hret _ _ _ _ _ _ hw dX8_next_48 ⟨hF, rfl⟩
      · skip
        have hF := hF.trans (if_neg c1)
        refine lv_aload_n hx hb dX8_next_19 rfl (lv_at hl 0 rfl) ?_
        refine km_get (ci := 8) (C := RX8) (T := TX8) (N := 23) (t := 30) (i := 0) hx hb hts fi_X8_next_X8 hown hK hw (by decide) (by decide) rfl rfl 13 (by decide) (hts (.fieldLink RX8 25 "WrongWordModel" "now" "[I") ow_X8_next_25) rfl dX8_next_20 ?_
        refine lv_aload_n hx hb dX8_next_23 rfl (lv_at hl 0 rfl) ?_
        refine km_get (ci := 8) (C := RX8) (T := TX8) (N := 23) (t := 30) (i := 0) hx hb hts fi_X8_next_X8 hown hK hw (by decide) (by decide) rfl rfl 13 (by decide) (hts (.fieldLink RX8 25 "WrongWordModel" "now" "[I") ow_X8_next_25) rfl dX8_next_24 ?_
        refine lv_iconst (v := 5) hx hb dX8_next_27 (by decide) ?_
        refine km_iald (t := 36) (i := 0) hx hb hK hw (by decide) (by decide) rfl (by unfold vp_in; decide) dX8_next_28 ?_
        refine lv_iload_n hx hb dX8_next_29 rfl (lv_at hl 2 rfl) ?_
        refine lv_iadd hx hb dX8_next_30 ?_
        have hs2 : g_X8_secretOf_36 v ((v 36 0 (Int32.toNatClampNeg 5)) + x2_13) ≠ none := fun q => hs (hF.trans (kb_n q _))
        refine km_cS (As := [.ref (Z.1 36 0), .int ((v 36 0 (Int32.toNatClampNeg 5)) + x2_13)]) (rest := []) (n := 2) ⟨hx, hb, hml, hown, hts⟩ (d_X8_secretOf_36 l E Z v ((v 36 0 (Int32.toNatClampNeg 5)) + x2_13) hs2) gX8_next_X8_secretOf rfl hV_X8_secretOf ⟨Nat.le_of_ble_eq_true rfl, Nat.le_of_ble_eq_true rfl⟩ hK hw rfl hl.1 rfl (Nat.le_of_ble_eq_true rfl) dX8_next_31 rfl rfl (fun r3 v4 H locs hp hw => ?_)
        obtain ⟨hp, rfl⟩ := hp
        have hF := hF.trans (kb_some hp _)
        refine lv_iload_n hx hb dX8_next_34 rfl (lv_at hl 1 rfl) ?_
        refine lv_icmp_ne (tgt := 40) hx hb dX8_next_35 (by decide) (fun c5 => ?_) (fun c5 => ?_)
        · skip
          have hF := hF.trans (if_neg c5)
          refine lv_iinc (v := x2_13 + 1) (lv' := [(2, .int (x2_13 + 1)), (0, .ref (Z.1 30 0)), (1, .int a1)]) hx hb dX8_next_40 hl (k := 2) rfl rfl (by decide) rfl (fun ls hl => ?_)
          refine lv_goto (tgt := 13) hx hb dX8_next_43 (by decide) ?_
          have hl := lv_sub (l' := [(0, .ref (Z.1 30 0)), (1, .int a1), (2, .int (x2_13 + 1))]) hl [1, 2, 0] rfl
          exact ih13 (x2_13 + 1) _ _ _ hF hw hl
        · skip
          have hF := hF.trans (if_pos c5)
          refine lv_iload_n hx hb dX8_next_38 rfl (lv_at hl 2 rfl) ?_
          exact hret _ _ _ _ _ _ hw dX8_next_39 ⟨hF, rfl⟩
  refine lv_aload_n hx hb dX8_next_0 rfl (lv_at hl 0 rfl) ?_
  refine lv_iload_n hx hb dX8_next_1 rfl (lv_at hl 1 rfl) ?_
  have hs6 : g_X8_isWord v a1 ≠ none := fun q => hs (hF.trans (kb_n q _))
  refine km_cI (As := [.int a1]) (rest := []) (n := 1) (q := (RX8, TX8, 23)) (ci := 8) (t := 30) (i := 0) ⟨hx, hb, hml, hown, hts⟩ (d_X8_isWord l E Z v a1 hs6) gX8_next_X8_isWord rfl hV_X8_isWord ⟨Nat.le_of_ble_eq_true rfl, Nat.le_of_ble_eq_true rfl⟩ hK hw (by decide) (by decide) rfl rfl rfl hl.1 rfl (Nat.le_of_ble_eq_true rfl) dX8_next_2 rfl rfl (fun r7 v8 H locs hp hw => ?_)
  obtain ⟨hp, hzr7⟩ := hp
  obtain ⟨hp, rfl⟩ := hp
  have hF := hF.trans (kb_some hp _)
  refine lv_if_ne (tgt := 11) hx hb dX8_next_5 (by decide) (fun c9 => ?_) (fun c9 => ?_)
  · skip
    have hF := hF.trans (if_neg c9)
    refine lv_iconst (v := 0) hx hb dX8_next_11 (by decide) ?_
    refine lv_istore_n (lv' := [(2, .int 0), (0, .ref (Z.1 30 0)), (1, .int a1)]) hx hb dX8_next_12 rfl hl (by decide) rfl (fun ls hl => ?_)
    have hl := lv_sub (l' := [(0, .ref (Z.1 30 0)), (1, .int a1), (2, .int 0)]) hl [1, 2, 0] rfl
    exact loop13 2000 0 _ _ _ hF hw hl
  · skip
    have hF := hF.trans (if_pos c9)
    refine lv_ldc (v := (-1000001)) hx hb hown (hts (.constant RX8 64 (-1000001)) ow_X8_next_64) dX8_next_8 ?_
    exact hret _ _ _ _ _ _ hw dX8_next_10 ⟨hF, rfl⟩
abbrev rmX8_agreeing : Room := { frames := 2, cells := 0, slots := 0, locals := 48 }
def b_X8_agreeing_L19 (rec4 : Int32 → Int32 → Option (Int32)) (rec19 : Int32 → Int32 → Int32 → Int32 → Option (Int32)) (v : Mm) (x1_19 : Int32) (x2_19 : Int32) (x3_19 : Int32) (x4_19 : Int32) : Option (Int32) := if v 36 0 (Int32.toNatClampNeg 7) ≤ x4_19 then (if x3_19 = 0 then (rec4 (x1_19 ||| 0) (x2_19 + 1)) else (Option.bind (some (x1_19 ||| ((1 : Int32) <<< (x2_19 &&& 31)))) (fun x4 => rec4 x4 (x2_19 + 1)))) else (if ((38 : Int32) + ((3 : Int32) * x4_19)) + 1 < 0 ∨ 65 ≤ Int32.toNatClampNeg (((38 : Int32) + ((3 : Int32) * x4_19)) + 1) then none else (Option.bind (some ((v 36 0 (Int32.toNatClampNeg (((38 : Int32) + ((3 : Int32) * x4_19)) + 1))) - 1)) (fun x6 => if x3_19 = 0 then (rec19 x1_19 x2_19 0 (x4_19 + 1)) else (if x6 < 0 then (rec19 x1_19 x2_19 1 (x4_19 + 1)) else (Option.bind (g_X8_kindIn v x6) (fun r10 => if (38 : Int32) + ((3 : Int32) * x4_19) < 0 ∨ 65 ≤ Int32.toNatClampNeg ((38 : Int32) + ((3 : Int32) * x4_19)) then none else (Option.bind (g_X8_takesBy v r10 (v 36 0 (Int32.toNatClampNeg ((38 : Int32) + ((3 : Int32) * x4_19)))) x2_19 (v 36 0 (Int32.toNatClampNeg 5))) (fun r14 => if ((38 : Int32) + ((3 : Int32) * x4_19)) + 2 < 0 ∨ 65 ≤ Int32.toNatClampNeg (((38 : Int32) + ((3 : Int32) * x4_19)) + 2) then none else (if v 36 0 (Int32.toNatClampNeg (((38 : Int32) + ((3 : Int32) * x4_19)) + 2)) = 1 then (if r14 = 1 then (rec19 x1_19 x2_19 1 (x4_19 + 1)) else (rec19 x1_19 x2_19 0 (x4_19 + 1))) else (if r14 = 0 then (rec19 x1_19 x2_19 1 (x4_19 + 1)) else (rec19 x1_19 x2_19 0 (x4_19 + 1))))))))))))
def g_X8_agreeing_L19 (rec4 : Int32 → Int32 → Option (Int32)) (v : Mm) : Nat → Int32 → Int32 → Int32 → Int32 → Option (Int32)
  | 0 => fun _ _ _ _ => none
  | n + 1 => b_X8_agreeing_L19 rec4 (g_X8_agreeing_L19 rec4 v n) v
def b_X8_agreeing_L4  (rec4 : Int32 → Int32 → Option (Int32)) (v : Mm) (x1_4 : Int32) (x2_4 : Int32) : Option (Int32) := if v 36 0 (Int32.toNatClampNeg 3) ≤ x2_4 then (some x1_4) else (g_X8_agreeing_L19 rec4 v 2000 x1_4 x2_4 1 0)
def g_X8_agreeing_L4  (v : Mm) : Nat → Int32 → Int32 → Option (Int32)
  | 0 => fun _ _ => none
  | n + 1 => b_X8_agreeing_L4  (g_X8_agreeing_L4  v n) v
def g_X8_agreeing (v : Mm)  : Option (Int32) := g_X8_agreeing_L4  v 2000 0 0
set_option maxHeartbeats 4000000 in
set_option maxRecDepth 100000 in
theorem d_X8_agreeing (l : Launch) (E : kq_T) (Z : km_Z) (v : Mm) (hs : g_X8_agreeing v ≠ none) : km_I l E Z cntM yX8_agreeing wsX8_agreeing rmX8_agreeing [.ref (Z.1 30 0)] v (fun r v1 => g_X8_agreeing v = some r ∧ v = v1) := by
  refine km_goI (cc := cX8_agreeing) (maxL := 6) (by decide) rfl (Nat.le_of_ble_eq_true rfl) rfl rfl rfl ?_
  intro p e s m below meth c A ls Q C hK hw hl hret
  obtain ⟨hx, hb, hml, hown, hts, -, -, -⟩ := C
  have hown : s.vm.findClass RX8 = some m.cls := hown
  have hl : lv_has ls 6 [(0, .ref (Z.1 30 0))] := hl
  have hF := g_X8_agreeing.eq_1 v 
  have loop4 : ∀ (n4 : Nat) (x1_4 : Int32) (x2_4 : Int32) (H : Heap) (locs : List Loc) (ls : Array Slot), g_X8_agreeing v = g_X8_agreeing_L4  v n4 x1_4 x2_4 → km_w E A s.heap [] Z cntM v H locs → lv_has ls 6 [(0, .ref (Z.1 30 0)), (1, .int x1_4), (2, .int x2_4)] → W p l e rmX8_agreeing s m [.ref (Z.1 30 0)].toArray below meth c H locs 0 0 Q (F0 m 4 ls []) := by
    intro n4
    induction n4 with
    | zero => intro x1_4 x2_4 H locs ls hF hw hl; exact absurd (show g_X8_agreeing v = none from hF) hs
    | succ n4 ih4 =>
      intro x1_4 x2_4 H locs ls hF hw hl
      have hF := hF.trans (b_X8_agreeing_L4.eq_1  (g_X8_agreeing_L4  v n4) v x1_4 x2_4)
      have loop19 : ∀ (n19 : Nat) (x1_19 : Int32) (x2_19 : Int32) (x3_19 : Int32) (x4_19 : Int32) (H : Heap) (locs : List Loc) (ls : Array Slot), g_X8_agreeing v = g_X8_agreeing_L19 (g_X8_agreeing_L4  v n4) v n19 x1_19 x2_19 x3_19 x4_19 → km_w E A s.heap [] Z cntM v H locs → lv_has ls 6 [(0, .ref (Z.1 30 0)), (1, .int x1_19), (2, .int x2_19), (3, .int x3_19), (4, .int x4_19)] → W p l e rmX8_agreeing s m [.ref (Z.1 30 0)].toArray below meth c H locs 0 0 Q (F0 m 19 ls []) := by
        intro n19
        induction n19 with
        | zero => intro x1_19 x2_19 x3_19 x4_19 H locs ls hF hw hl; exact absurd (show g_X8_agreeing v = none from hF) hs
        | succ n19 ih19 =>
          intro x1_19 x2_19 x3_19 x4_19 H locs ls hF hw hl
          have hF := hF.trans (b_X8_agreeing_L19.eq_1 (g_X8_agreeing_L4  v n4) (g_X8_agreeing_L19 (g_X8_agreeing_L4  v n4) v n19) v x1_19 x2_19 x3_19 x4_19)
          refine lv_iload hx hb dX8_agreeing_19 (lv_at hl 4 rfl) ?_
          refine lv_aload_n hx hb dX8_agreeing_21 rfl (lv_at hl 0 rfl) ?_
          refine km_get (ci := 8) (C := RX8) (T := TX8) (N := 23) (t := 30) (i := 0) hx hb hts fi_X8_agreeing_X8 hown hK hw (by decide) (by decide) rfl rfl 13 (by decide) (hts (.fieldLink RX8 25 "WrongWordModel" "now" "[I") ow_X8_agreeing_25) rfl dX8_agreeing_22 ?_
          refine lv_bipush (v := 7) hx hb dX8_agreeing_25 (by decide) ?_
          refine km_iald (t := 36) (i := 0) hx hb hK hw (by decide) (by decide) rfl (by unfold vp_in; decide) dX8_agreeing_27 ?_
          refine lv_icmp_ge (tgt := 125) hx hb dX8_agreeing_28 (by decide) (fun c1 => ?_) (fun c1 => ?_)
          · skip
            have hF := hF.trans (if_pos c1)
            refine lv_iload_n hx hb dX8_agreeing_125 rfl (lv_at hl 1 rfl) ?_
            refine lv_iload_n hx hb dX8_agreeing_126 rfl (lv_at hl 3 rfl) ?_
            refine lv_if_eq (tgt := 136) hx hb dX8_agreeing_127 (by decide) (fun c2 => ?_) (fun c2 => ?_)
            · skip
              have hF := hF.trans (if_pos c2)
              refine lv_iconst (v := 0) hx hb dX8_agreeing_136 (by decide) ?_
              refine lv_ior hx hb dX8_agreeing_137 ?_
              refine lv_istore_n (lv' := [(1, .int (x1_19 ||| 0)), (0, .ref (Z.1 30 0)), (2, .int x2_19), (3, .int x3_19), (4, .int x4_19)]) hx hb dX8_agreeing_138 rfl hl (by decide) rfl (fun ls hl => ?_)
              refine lv_iinc (v := x2_19 + 1) (lv' := [(2, .int (x2_19 + 1)), (1, .int (x1_19 ||| 0)), (0, .ref (Z.1 30 0)), (3, .int x3_19), (4, .int x4_19)]) hx hb dX8_agreeing_139 hl (k := 2) rfl rfl (by decide) rfl (fun ls hl => ?_)
              refine lv_goto (tgt := 4) hx hb dX8_agreeing_142 (by decide) ?_
              have hl := lv_sub (l' := [(0, .ref (Z.1 30 0)), (1, .int (x1_19 ||| 0)), (2, .int (x2_19 + 1))]) hl [2, 1, 0] rfl
              exact ih4 (x1_19 ||| 0) (x2_19 + 1) _ _ _ hF hw hl
            · skip
              have hF := hF.trans (if_neg c2)
              refine lv_iconst (v := 1) hx hb dX8_agreeing_130 (by decide) ?_
              refine lv_iload_n hx hb dX8_agreeing_131 rfl (lv_at hl 2 rfl) ?_
              refine lv_ishl hx hb dX8_agreeing_132 ?_
              refine lv_goto (tgt := 137) hx hb dX8_agreeing_133 (by decide) ?_
              refine lv_ior hx hb dX8_agreeing_137 ?_
              refine lv_topi (fun x3 ex3 => ?_)
              have hF := hF.trans (kb_some (congrArg some ex3.symm) _)
              refine lv_istore_n (lv' := [(1, .int x3), (0, .ref (Z.1 30 0)), (2, .int x2_19), (3, .int x3_19), (4, .int x4_19)]) hx hb dX8_agreeing_138 rfl hl (by decide) rfl (fun ls hl => ?_)
              refine lv_iinc (v := x2_19 + 1) (lv' := [(2, .int (x2_19 + 1)), (1, .int x3), (0, .ref (Z.1 30 0)), (3, .int x3_19), (4, .int x4_19)]) hx hb dX8_agreeing_139 hl (k := 2) rfl rfl (by decide) rfl (fun ls hl => ?_)
              refine lv_goto (tgt := 4) hx hb dX8_agreeing_142 (by decide) ?_
              have hl := lv_sub (l' := [(0, .ref (Z.1 30 0)), (1, .int x3), (2, .int (x2_19 + 1))]) hl [2, 1, 0] rfl
              exact ih4 x3 (x2_19 + 1) _ _ _ hF hw hl
          · skip
            have hF := hF.trans (if_neg c1)
            refine lv_aload_n hx hb dX8_agreeing_31 rfl (lv_at hl 0 rfl) ?_
            refine km_get (ci := 8) (C := RX8) (T := TX8) (N := 23) (t := 30) (i := 0) hx hb hts fi_X8_agreeing_X8 hown hK hw (by decide) (by decide) rfl rfl 13 (by decide) (hts (.fieldLink RX8 25 "WrongWordModel" "now" "[I") ow_X8_agreeing_25) rfl dX8_agreeing_32 ?_
            refine lv_bipush (v := 38) hx hb dX8_agreeing_35 (by decide) ?_
            refine lv_iconst (v := 3) hx hb dX8_agreeing_37 (by decide) ?_
            refine lv_iload hx hb dX8_agreeing_38 (lv_at hl 4 rfl) ?_
            refine lv_imul hx hb dX8_agreeing_40 ?_
            refine lv_iadd hx hb dX8_agreeing_41 ?_
            refine lv_iconst (v := 1) hx hb dX8_agreeing_42 (by decide) ?_
            refine lv_iadd hx hb dX8_agreeing_43 ?_
            have hb4 : ¬ (((38 : Int32) + ((3 : Int32) * x4_19)) + 1 < 0 ∨ 65 ≤ Int32.toNatClampNeg (((38 : Int32) + ((3 : Int32) * x4_19)) + 1)) := fun q => hs (hF.trans (if_pos q))
            have hF := hF.trans (if_neg hb4)
            refine km_iald (t := 36) (i := 0) hx hb hK hw (by decide) (by decide) rfl hb4 dX8_agreeing_44 ?_
            refine lv_iconst (v := 1) hx hb dX8_agreeing_45 (by decide) ?_
            refine lv_isub hx hb dX8_agreeing_46 ?_
            refine lv_topi (fun x5 ex5 => ?_)
            have hF := hF.trans (kb_some (congrArg some ex5.symm) _)
            refine lv_istore (lv' := [(5, .int x5), (0, .ref (Z.1 30 0)), (1, .int x1_19), (2, .int x2_19), (3, .int x3_19), (4, .int x4_19)]) hx hb dX8_agreeing_47 hl (by decide) rfl (fun ls hl => ?_)
            refine lv_iload_n hx hb dX8_agreeing_49 rfl (lv_at hl 4 rfl) ?_
            refine lv_if_eq (tgt := 117) hx hb dX8_agreeing_50 (by decide) (fun c6 => ?_) (fun c6 => ?_)
            · skip
              have hF := hF.trans (if_pos c6)
              refine lv_iconst (v := 0) hx hb dX8_agreeing_117 (by decide) ?_
              refine lv_istore_n (lv' := [(3, .int 0), (5, .int x5), (0, .ref (Z.1 30 0)), (1, .int x1_19), (2, .int x2_19), (4, .int x4_19)]) hx hb dX8_agreeing_118 rfl hl (by decide) rfl (fun ls hl => ?_)
              refine lv_iinc (v := x4_19 + 1) (lv' := [(4, .int (x4_19 + 1)), (3, .int 0), (5, .int x5), (0, .ref (Z.1 30 0)), (1, .int x1_19), (2, .int x2_19)]) hx hb dX8_agreeing_119 hl (k := 5) rfl rfl (by decide) rfl (fun ls hl => ?_)
              refine lv_goto (tgt := 19) hx hb dX8_agreeing_122 (by decide) ?_
              have hl := lv_sub (l' := [(0, .ref (Z.1 30 0)), (1, .int x1_19), (2, .int x2_19), (3, .int 0), (4, .int (x4_19 + 1))]) hl [3, 4, 5, 1, 0] rfl
              exact ih19 x1_19 x2_19 0 (x4_19 + 1) _ _ _ hF hw hl
            · skip
              have hF := hF.trans (if_neg c6)
              refine lv_iload hx hb dX8_agreeing_53 (lv_at hl 0 rfl) ?_
              refine lv_if_lt (tgt := 113) hx hb dX8_agreeing_55 (by decide) (fun c7 => ?_) (fun c7 => ?_)
              · skip
                have hF := hF.trans (if_pos c7)
                refine lv_iconst (v := 1) hx hb dX8_agreeing_113 (by decide) ?_
                refine lv_goto (tgt := 118) hx hb dX8_agreeing_114 (by decide) ?_
                refine lv_istore_n (lv' := [(3, .int 1), (5, .int x5), (0, .ref (Z.1 30 0)), (1, .int x1_19), (2, .int x2_19), (4, .int x4_19)]) hx hb dX8_agreeing_118 rfl hl (by decide) rfl (fun ls hl => ?_)
                refine lv_iinc (v := x4_19 + 1) (lv' := [(4, .int (x4_19 + 1)), (3, .int 1), (5, .int x5), (0, .ref (Z.1 30 0)), (1, .int x1_19), (2, .int x2_19)]) hx hb dX8_agreeing_119 hl (k := 5) rfl rfl (by decide) rfl (fun ls hl => ?_)
                refine lv_goto (tgt := 19) hx hb dX8_agreeing_122 (by decide) ?_
                have hl := lv_sub (l' := [(0, .ref (Z.1 30 0)), (1, .int x1_19), (2, .int x2_19), (3, .int 1), (4, .int (x4_19 + 1))]) hl [3, 4, 5, 1, 0] rfl
                exact ih19 x1_19 x2_19 1 (x4_19 + 1) _ _ _ hF hw hl
              · skip
                have hF := hF.trans (if_neg c7)
                refine lv_aload_n hx hb dX8_agreeing_58 rfl (lv_at hl 1 rfl) ?_
                refine lv_aload_n hx hb dX8_agreeing_59 rfl (lv_at hl 1 rfl) ?_
                refine lv_iload hx hb dX8_agreeing_60 (lv_at hl 0 rfl) ?_
                have hs8 : g_X8_kindIn v x5 ≠ none := fun q => hs (hF.trans (kb_n q _))
                refine km_cI (As := [.int x5]) (rest := [.ref (Z.1 30 0)]) (n := 1) (q := (RX8, TX8, 23)) (ci := 8) (t := 30) (i := 0) ⟨hx, hb, hml, hown, hts⟩ (d_X8_kindIn l E Z v x5 hs8) gX8_agreeing_X8_kindIn rfl hV_X8_kindIn ⟨Nat.le_of_ble_eq_true rfl, Nat.le_of_ble_eq_true rfl⟩ hK hw (by decide) (by decide) rfl rfl rfl hl.1 rfl (Nat.le_of_ble_eq_true rfl) dX8_agreeing_62 rfl rfl (fun r9 v10 H locs hp hw => ?_)
                obtain ⟨hp, rfl⟩ := hp
                have hF := hF.trans (kb_some hp _)
                refine lv_aload_n hx hb dX8_agreeing_65 rfl (lv_at hl 1 rfl) ?_
                refine km_get (ci := 8) (C := RX8) (T := TX8) (N := 23) (t := 30) (i := 0) hx hb hts fi_X8_agreeing_X8 hown hK hw (by decide) (by decide) rfl rfl 13 (by decide) (hts (.fieldLink RX8 25 "WrongWordModel" "now" "[I") ow_X8_agreeing_25) rfl dX8_agreeing_66 ?_
                refine lv_bipush (v := 38) hx hb dX8_agreeing_69 (by decide) ?_
                refine lv_iconst (v := 3) hx hb dX8_agreeing_71 (by decide) ?_
                refine lv_iload hx hb dX8_agreeing_72 (lv_at hl 5 rfl) ?_
                refine lv_imul hx hb dX8_agreeing_74 ?_
                refine lv_iadd hx hb dX8_agreeing_75 ?_
                have hb11 : ¬ ((38 : Int32) + ((3 : Int32) * x4_19) < 0 ∨ 65 ≤ Int32.toNatClampNeg ((38 : Int32) + ((3 : Int32) * x4_19))) := fun q => hs (hF.trans (if_pos q))
                have hF := hF.trans (if_neg hb11)
                refine km_iald (t := 36) (i := 0) hx hb hK hw (by decide) (by decide) rfl hb11 dX8_agreeing_76 ?_
                refine lv_iload_n hx hb dX8_agreeing_77 rfl (lv_at hl 3 rfl) ?_
                refine lv_aload_n hx hb dX8_agreeing_78 rfl (lv_at hl 1 rfl) ?_
                refine km_get (ci := 8) (C := RX8) (T := TX8) (N := 23) (t := 30) (i := 0) hx hb hts fi_X8_agreeing_X8 hown hK hw (by decide) (by decide) rfl rfl 13 (by decide) (hts (.fieldLink RX8 25 "WrongWordModel" "now" "[I") ow_X8_agreeing_25) rfl dX8_agreeing_79 ?_
                refine lv_iconst (v := 5) hx hb dX8_agreeing_82 (by decide) ?_
                refine km_iald (t := 36) (i := 0) hx hb hK hw (by decide) (by decide) rfl (by unfold vp_in; decide) dX8_agreeing_83 ?_
                have hs12 : g_X8_takesBy v r9 (v 36 0 (Int32.toNatClampNeg ((38 : Int32) + ((3 : Int32) * x4_19)))) x2_19 (v 36 0 (Int32.toNatClampNeg 5)) ≠ none := fun q => hs (hF.trans (kb_n q _))
                refine km_cI (As := [.int r9, .int (v 36 0 (Int32.toNatClampNeg ((38 : Int32) + ((3 : Int32) * x4_19)))), .int x2_19, .int (v 36 0 (Int32.toNatClampNeg 5))]) (rest := []) (n := 4) (q := (RX8, TX8, 23)) (ci := 8) (t := 30) (i := 0) ⟨hx, hb, hml, hown, hts⟩ (d_X8_takesBy l E Z v r9 (v 36 0 (Int32.toNatClampNeg ((38 : Int32) + ((3 : Int32) * x4_19)))) x2_19 (v 36 0 (Int32.toNatClampNeg 5)) hs12) gX8_agreeing_X8_takesBy rfl hV_X8_takesBy ⟨Nat.le_of_ble_eq_true rfl, Nat.le_of_ble_eq_true rfl⟩ hK hw (by decide) (by decide) rfl rfl rfl hl.1 rfl (Nat.le_of_ble_eq_true rfl) dX8_agreeing_84 rfl rfl (fun r13 v14 H locs hp hw => ?_)
                obtain ⟨hp, hzr13⟩ := hp
                obtain ⟨hp, rfl⟩ := hp
                have hF := hF.trans (kb_some hp _)
                refine lv_aload_n hx hb dX8_agreeing_87 rfl (lv_at hl 1 rfl) ?_
                refine km_get (ci := 8) (C := RX8) (T := TX8) (N := 23) (t := 30) (i := 0) hx hb hts fi_X8_agreeing_X8 hown hK hw (by decide) (by decide) rfl rfl 13 (by decide) (hts (.fieldLink RX8 25 "WrongWordModel" "now" "[I") ow_X8_agreeing_25) rfl dX8_agreeing_88 ?_
                refine lv_bipush (v := 38) hx hb dX8_agreeing_91 (by decide) ?_
                refine lv_iconst (v := 3) hx hb dX8_agreeing_93 (by decide) ?_
                refine lv_iload hx hb dX8_agreeing_94 (lv_at hl 5 rfl) ?_
                refine lv_imul hx hb dX8_agreeing_96 ?_
                refine lv_iadd hx hb dX8_agreeing_97 ?_
                refine lv_iconst (v := 2) hx hb dX8_agreeing_98 (by decide) ?_
                refine lv_iadd hx hb dX8_agreeing_99 ?_
                have hb15 : ¬ (((38 : Int32) + ((3 : Int32) * x4_19)) + 2 < 0 ∨ 65 ≤ Int32.toNatClampNeg (((38 : Int32) + ((3 : Int32) * x4_19)) + 2)) := fun q => hs (hF.trans (if_pos q))
                have hF := hF.trans (if_neg hb15)
                refine km_iald (t := 36) (i := 0) hx hb hK hw (by decide) (by decide) rfl hb15 dX8_agreeing_100 ?_
                refine lv_iconst (v := 1) hx hb dX8_agreeing_101 (by decide) ?_
                refine lv_icmp_ne (tgt := 109) hx hb dX8_agreeing_102 (by decide) (fun c16 => ?_) (fun c16 => ?_)
                · skip
                  have hF := hF.trans (if_neg c16)
                  refine lv_iconst (v := 0) hx hb dX8_agreeing_109 (by decide) ?_
                  refine lv_icmp_ne (tgt := 117) hx hb dX8_agreeing_110 (by decide) (fun c17 => ?_) (fun c17 => ?_)
                  · skip
                    have hF := hF.trans (if_neg c17)
                    refine lv_iconst (v := 0) hx hb dX8_agreeing_117 (by decide) ?_
                    refine lv_istore_n (lv' := [(3, .int 0), (5, .int x5), (0, .ref (Z.1 30 0)), (1, .int x1_19), (2, .int x2_19), (4, .int x4_19)]) hx hb dX8_agreeing_118 rfl hl (by decide) rfl (fun ls hl => ?_)
                    refine lv_iinc (v := x4_19 + 1) (lv' := [(4, .int (x4_19 + 1)), (3, .int 0), (5, .int x5), (0, .ref (Z.1 30 0)), (1, .int x1_19), (2, .int x2_19)]) hx hb dX8_agreeing_119 hl (k := 5) rfl rfl (by decide) rfl (fun ls hl => ?_)
                    refine lv_goto (tgt := 19) hx hb dX8_agreeing_122 (by decide) ?_
                    have hl := lv_sub (l' := [(0, .ref (Z.1 30 0)), (1, .int x1_19), (2, .int x2_19), (3, .int 0), (4, .int (x4_19 + 1))]) hl [3, 4, 5, 1, 0] rfl
                    exact ih19 x1_19 x2_19 0 (x4_19 + 1) _ _ _ hF hw hl
                  · skip
                    have hF := hF.trans (if_pos c17)
                    refine lv_iconst (v := 1) hx hb dX8_agreeing_113 (by decide) ?_
                    refine lv_goto (tgt := 118) hx hb dX8_agreeing_114 (by decide) ?_
                    refine lv_istore_n (lv' := [(3, .int 1), (5, .int x5), (0, .ref (Z.1 30 0)), (1, .int x1_19), (2, .int x2_19), (4, .int x4_19)]) hx hb dX8_agreeing_118 rfl hl (by decide) rfl (fun ls hl => ?_)
                    refine lv_iinc (v := x4_19 + 1) (lv' := [(4, .int (x4_19 + 1)), (3, .int 1), (5, .int x5), (0, .ref (Z.1 30 0)), (1, .int x1_19), (2, .int x2_19)]) hx hb dX8_agreeing_119 hl (k := 5) rfl rfl (by decide) rfl (fun ls hl => ?_)
                    refine lv_goto (tgt := 19) hx hb dX8_agreeing_122 (by decide) ?_
                    have hl := lv_sub (l' := [(0, .ref (Z.1 30 0)), (1, .int x1_19), (2, .int x2_19), (3, .int 1), (4, .int (x4_19 + 1))]) hl [3, 4, 5, 1, 0] rfl
                    exact ih19 x1_19 x2_19 1 (x4_19 + 1) _ _ _ hF hw hl
                · skip
                  have hF := hF.trans (if_pos c16)
                  refine lv_iconst (v := 1) hx hb dX8_agreeing_105 (by decide) ?_
                  refine lv_goto (tgt := 110) hx hb dX8_agreeing_106 (by decide) ?_
                  refine lv_icmp_ne (tgt := 117) hx hb dX8_agreeing_110 (by decide) (fun c18 => ?_) (fun c18 => ?_)
                  · skip
                    have hF := hF.trans (if_neg c18)
                    refine lv_iconst (v := 0) hx hb dX8_agreeing_117 (by decide) ?_
                    refine lv_istore_n (lv' := [(3, .int 0), (5, .int x5), (0, .ref (Z.1 30 0)), (1, .int x1_19), (2, .int x2_19), (4, .int x4_19)]) hx hb dX8_agreeing_118 rfl hl (by decide) rfl (fun ls hl => ?_)
                    refine lv_iinc (v := x4_19 + 1) (lv' := [(4, .int (x4_19 + 1)), (3, .int 0), (5, .int x5), (0, .ref (Z.1 30 0)), (1, .int x1_19), (2, .int x2_19)]) hx hb dX8_agreeing_119 hl (k := 5) rfl rfl (by decide) rfl (fun ls hl => ?_)
                    refine lv_goto (tgt := 19) hx hb dX8_agreeing_122 (by decide) ?_
                    have hl := lv_sub (l' := [(0, .ref (Z.1 30 0)), (1, .int x1_19), (2, .int x2_19), (3, .int 0), (4, .int (x4_19 + 1))]) hl [3, 4, 5, 1, 0] rfl
                    exact ih19 x1_19 x2_19 0 (x4_19 + 1) _ _ _ hF hw hl
                  · skip
                    have hF := hF.trans (if_pos c18)
                    refine lv_iconst (v := 1) hx hb dX8_agreeing_113 (by decide) ?_
                    refine lv_goto (tgt := 118) hx hb dX8_agreeing_114 (by decide) ?_
                    refine lv_istore_n (lv' := [(3, .int 1), (5, .int x5), (0, .ref (Z.1 30 0)), (1, .int x1_19), (2, .int x2_19), (4, .int x4_19)]) hx hb dX8_agreeing_118 rfl hl (by decide) rfl (fun ls hl => ?_)
                    refine lv_iinc (v := x4_19 + 1) (lv' := [(4, .int (x4_19 + 1)), (3, .int 1), (5, .int x5), (0, .ref (Z.1 30 0)), (1, .int x1_19), (2, .int x2_19)]) hx hb dX8_agreeing_119 hl (k := 5) rfl rfl (by decide) rfl (fun ls hl => ?_)
                    refine lv_goto (tgt := 19) hx hb dX8_agreeing_122 (by decide) ?_
                    have hl := lv_sub (l' := [(0, .ref (Z.1 30 0)), (1, .int x1_19), (2, .int x2_19), (3, .int 1), (4, .int (x4_19 + 1))]) hl [3, 4, 5, 1, 0] rfl
                    exact ih19 x1_19 x2_19 1 (x4_19 + 1) _ _ _ hF hw hl
      refine lv_iload_n hx hb dX8_agreeing_4 rfl (lv_at hl 2 rfl) ?_
      refine lv_aload_n hx hb dX8_agreeing_5 rfl (lv_at hl 0 rfl) ?_
      refine km_get (ci := 8) (C := RX8) (T := TX8) (N := 23) (t := 30) (i := 0) hx hb hts fi_X8_agreeing_X8 hown hK hw (by decide) (by decide) rfl rfl 13 (by decide) (hts (.fieldLink RX8 25 "WrongWordModel" "now" "[I") ow_X8_agreeing_25) rfl dX8_agreeing_6 ?_
      refine lv_iconst (v := 3) hx hb dX8_agreeing_9 (by decide) ?_
      refine km_iald (t := 36) (i := 0) hx hb hK hw (by decide) (by decide) rfl (by unfold vp_in; decide) dX8_agreeing_10 ?_
      refine lv_icmp_ge (tgt := 145) hx hb dX8_agreeing_11 (by decide) (fun c19 => ?_) (fun c19 => ?_)
      · skip
        have hF := hF.trans (if_pos c19)
        refine lv_iload_n hx hb dX8_agreeing_145 rfl (lv_at hl 1 rfl) ?_
        exact hret _ _ _ _ _ _ hw dX8_agreeing_146 ⟨hF, rfl⟩
      · skip
        have hF := hF.trans (if_neg c19)
        refine lv_iconst (v := 1) hx hb dX8_agreeing_14 (by decide) ?_
        refine lv_istore_n (lv' := [(3, .int 1), (0, .ref (Z.1 30 0)), (1, .int x1_4), (2, .int x2_4)]) hx hb dX8_agreeing_15 rfl hl (by decide) rfl (fun ls hl => ?_)
        refine lv_iconst (v := 0) hx hb dX8_agreeing_16 (by decide) ?_
        refine lv_istore (lv' := [(4, .int 0), (3, .int 1), (0, .ref (Z.1 30 0)), (1, .int x1_4), (2, .int x2_4)]) hx hb dX8_agreeing_17 hl (by decide) rfl (fun ls hl => ?_)
        have hl := lv_sub (l' := [(0, .ref (Z.1 30 0)), (1, .int x1_4), (2, .int x2_4), (3, .int 1), (4, .int 0)]) hl [2, 3, 4, 1, 0] rfl
        exact loop19 2000 x1_4 x2_4 1 0 _ _ _ hF hw hl
  refine lv_iconst (v := 0) hx hb dX8_agreeing_0 (by decide) ?_
  refine lv_istore_n (lv' := [(1, .int 0), (0, .ref (Z.1 30 0))]) hx hb dX8_agreeing_1 rfl hl (by decide) rfl (fun ls hl => ?_)
  refine lv_iconst (v := 0) hx hb dX8_agreeing_2 (by decide) ?_
  refine lv_istore_n (lv' := [(2, .int 0), (1, .int 0), (0, .ref (Z.1 30 0))]) hx hb dX8_agreeing_3 rfl hl (by decide) rfl (fun ls hl => ?_)
  have hl := lv_sub (l' := [(0, .ref (Z.1 30 0)), (1, .int 0), (2, .int 0)]) hl [2, 1, 0] rfl
  exact loop4 2000 0 0 _ _ _ hF hw hl
abbrev rmX8_agree : Room := { frames := 3, cells := 0, slots := 0, locals := 73 }
def g_X8_agree (v : Mm)  : Option (Int32) := Option.bind (g_X8_isGate v) (fun r2 => if r2 = 0 then (some ((-1000002))) else (Option.bind (g_X8_agreeing v) (fun r6 => some r6)))
set_option maxHeartbeats 4000000 in
set_option maxRecDepth 100000 in
theorem d_X8_agree (l : Launch) (E : kq_T) (Z : km_Z) (v : Mm) (hs : g_X8_agree v ≠ none) : km_I l E Z cntM yX8_agree wsX8_agree rmX8_agree [.ref (Z.1 30 0)] v (fun r v1 => g_X8_agree v = some r ∧ v = v1) := by
  refine km_goI (cc := cX8_agree) (maxL := 1) (by decide) rfl (Nat.le_of_ble_eq_true rfl) rfl rfl rfl ?_
  intro p e s m below meth c A ls Q C hK hw hl hret
  obtain ⟨hx, hb, hml, hown, hts, -, -, -⟩ := C
  have hown : s.vm.findClass RX8 = some m.cls := hown
  have hl : lv_has ls 1 [(0, .ref (Z.1 30 0))] := hl
  have hF := g_X8_agree.eq_1 v 
  refine lv_aload_n hx hb dX8_agree_0 rfl (lv_at hl 0 rfl) ?_
  have hs1 : g_X8_isGate v ≠ none := fun q => hs (hF.trans (kb_n q _))
  refine km_cI (As := []) (rest := []) (n := 0) (q := (RX8, TX8, 23)) (ci := 8) (t := 30) (i := 0) ⟨hx, hb, hml, hown, hts⟩ (d_X8_isGate l E Z v  hs1) gX8_agree_X8_isGate rfl hV_X8_isGate ⟨Nat.le_of_ble_eq_true rfl, Nat.le_of_ble_eq_true rfl⟩ hK hw (by decide) (by decide) rfl rfl rfl hl.1 rfl (Nat.le_of_ble_eq_true rfl) dX8_agree_1 rfl rfl (fun r2 v3 H locs hp hw => ?_)
  obtain ⟨hp, hzr2⟩ := hp
  obtain ⟨hp, rfl⟩ := hp
  have hF := hF.trans (kb_some hp _)
  refine lv_if_eq (tgt := 14) hx hb dX8_agree_4 (by decide) (fun c4 => ?_) (fun c4 => ?_)
  · skip
    have hF := hF.trans (if_pos c4)
    refine lv_ldc (v := (-1000002)) hx hb hown (hts (.constant RX8 183 (-1000002)) ow_X8_agree_183) dX8_agree_14 ?_
    exact hret _ _ _ _ _ _ hw dX8_agree_16 ⟨hF, rfl⟩
  · skip
    have hF := hF.trans (if_neg c4)
    refine lv_aload_n hx hb dX8_agree_7 rfl (lv_at hl 0 rfl) ?_
    have hs5 : g_X8_agreeing v ≠ none := fun q => hs (hF.trans (kb_n q _))
    refine km_cI (As := []) (rest := []) (n := 0) (q := (RX8, TX8, 23)) (ci := 8) (t := 30) (i := 0) ⟨hx, hb, hml, hown, hts⟩ (d_X8_agreeing l E Z v  hs5) gX8_agree_X8_agreeing rfl hV_X8_agreeing ⟨Nat.le_of_ble_eq_true rfl, Nat.le_of_ble_eq_true rfl⟩ hK hw (by decide) (by decide) rfl rfl rfl hl.1 rfl (Nat.le_of_ble_eq_true rfl) dX8_agree_8 rfl rfl (fun r6 v7 H locs hp hw => ?_)
    obtain ⟨hp, rfl⟩ := hp
    have hF := hF.trans (kb_some hp _)
    refine lv_goto (tgt := 16) hx hb dX8_agree_11 (by decide) ?_
    exact hret _ _ _ _ _ _ hw dX8_agree_16 ⟨hF, rfl⟩
abbrev rmX8_takenOf : Room := { frames := 3, cells := 0, slots := 0, locals := 74 }
def b_X8_takenOf_L6  (rec6 : Int32 → Int32 → Option (Int32)) (v : Mm) (a1 : Int32) (a2 : Int32) (a3 : Int32) (x4_6 : Int32) (x5_6 : Int32) : Option (Int32) := if v 36 0 (Int32.toNatClampNeg 3) ≤ x5_6 then (some x4_6) else (Option.bind (g_X8_has v a1 x5_6) (fun r3 => if r3 = 0 then (rec6 (x4_6 ||| 0) (x5_6 + 1)) else (Option.bind (g_X8_isTaken v a2 a3 (v 36 0 (Int32.toNatClampNeg 5)) (v 36 0 (Int32.toNatClampNeg 6)) x5_6) (fun r7 => if r7 = 0 then (rec6 (x4_6 ||| 0) (x5_6 + 1)) else (Option.bind (some (x4_6 ||| ((1 : Int32) <<< (x5_6 &&& 31)))) (fun x10 => rec6 x10 (x5_6 + 1)))))))
def g_X8_takenOf_L6  (v : Mm) (a1 : Int32) (a2 : Int32) (a3 : Int32) : Nat → Int32 → Int32 → Option (Int32)
  | 0 => fun _ _ => none
  | n + 1 => b_X8_takenOf_L6  (g_X8_takenOf_L6  v a1 a2 a3 n) v a1 a2 a3
def g_X8_takenOf (v : Mm) (a1 : Int32) (a2 : Int32) (a3 : Int32) : Option (Int32) := g_X8_takenOf_L6  v a1 a2 a3 2000 0 0
set_option maxHeartbeats 4000000 in
set_option maxRecDepth 100000 in
theorem d_X8_takenOf (l : Launch) (E : kq_T) (Z : km_Z) (v : Mm) (a1 : Int32) (a2 : Int32) (a3 : Int32) (hs : g_X8_takenOf v a1 a2 a3 ≠ none) : km_I l E Z cntM yX8_takenOf wsX8_takenOf rmX8_takenOf [.ref (Z.1 30 0), .int a1, .int a2, .int a3] v (fun r v1 => g_X8_takenOf v a1 a2 a3 = some r ∧ v = v1) := by
  refine km_goI (cc := cX8_takenOf) (maxL := 6) (by decide) rfl (Nat.le_of_ble_eq_true rfl) rfl rfl rfl ?_
  intro p e s m below meth c A ls Q C hK hw hl hret
  obtain ⟨hx, hb, hml, hown, hts, -, -, -⟩ := C
  have hown : s.vm.findClass RX8 = some m.cls := hown
  have hl : lv_has ls 6 [(0, .ref (Z.1 30 0)), (1, .int a1), (2, .int a2), (3, .int a3)] := hl
  have hF := g_X8_takenOf.eq_1 v a1 a2 a3
  have loop6 : ∀ (n6 : Nat) (x4_6 : Int32) (x5_6 : Int32) (H : Heap) (locs : List Loc) (ls : Array Slot), g_X8_takenOf v a1 a2 a3 = g_X8_takenOf_L6  v a1 a2 a3 n6 x4_6 x5_6 → km_w E A s.heap [] Z cntM v H locs → lv_has ls 6 [(0, .ref (Z.1 30 0)), (1, .int a1), (2, .int a2), (3, .int a3), (4, .int x4_6), (5, .int x5_6)] → W p l e rmX8_takenOf s m [.ref (Z.1 30 0), .int a1, .int a2, .int a3].toArray below meth c H locs 0 0 Q (F0 m 6 ls []) := by
    intro n6
    induction n6 with
    | zero => intro x4_6 x5_6 H locs ls hF hw hl; exact absurd (show g_X8_takenOf v a1 a2 a3 = none from hF) hs
    | succ n6 ih6 =>
      intro x4_6 x5_6 H locs ls hF hw hl
      have hF := hF.trans (b_X8_takenOf_L6.eq_1  (g_X8_takenOf_L6  v a1 a2 a3 n6) v a1 a2 a3 x4_6 x5_6)
      refine lv_iload hx hb dX8_takenOf_6 (lv_at hl 5 rfl) ?_
      refine lv_aload_n hx hb dX8_takenOf_8 rfl (lv_at hl 0 rfl) ?_
      refine km_get (ci := 8) (C := RX8) (T := TX8) (N := 23) (t := 30) (i := 0) hx hb hts fi_X8_takenOf_X8 hown hK hw (by decide) (by decide) rfl rfl 13 (by decide) (hts (.fieldLink RX8 25 "WrongWordModel" "now" "[I") ow_X8_takenOf_25) rfl dX8_takenOf_9 ?_
      refine lv_iconst (v := 3) hx hb dX8_takenOf_12 (by decide) ?_
      refine km_iald (t := 36) (i := 0) hx hb hK hw (by decide) (by decide) rfl (by unfold vp_in; decide) dX8_takenOf_13 ?_
      refine lv_icmp_ge (tgt := 69) hx hb dX8_takenOf_14 (by decide) (fun c1 => ?_) (fun c1 => ?_)
      · skip
        have hF := hF.trans (if_pos c1)
        refine lv_iload hx hb dX8_takenOf_69 (lv_at hl 4 rfl) ?_
        exact hret _ _ _ _ _ _ hw dX8_takenOf_71 ⟨hF, rfl⟩
      · skip
        have hF := hF.trans (if_neg c1)
        refine lv_iload hx hb dX8_takenOf_17 (lv_at hl 4 rfl) ?_
        refine lv_iload_n hx hb dX8_takenOf_19 rfl (lv_at hl 1 rfl) ?_
        refine lv_iload hx hb dX8_takenOf_20 (lv_at hl 5 rfl) ?_
        have hs2 : g_X8_has v a1 x5_6 ≠ none := fun q => hs (hF.trans (kb_n q _))
        refine km_cS (As := [.int a1, .int x5_6]) (rest := [.int x4_6]) (n := 2) ⟨hx, hb, hml, hown, hts⟩ (d_X8_has l E Z v a1 x5_6 hs2) gX8_takenOf_X8_has rfl hV_X8_has ⟨Nat.le_of_ble_eq_true rfl, Nat.le_of_ble_eq_true rfl⟩ hK hw rfl hl.1 rfl (Nat.le_of_ble_eq_true rfl) dX8_takenOf_22 rfl rfl (fun r3 v4 H locs hp hw => ?_)
        obtain ⟨hp, hzr3⟩ := hp
        obtain ⟨hp, rfl⟩ := hp
        have hF := hF.trans (kb_some hp _)
        refine lv_if_eq (tgt := 59) hx hb dX8_takenOf_25 (by decide) (fun c5 => ?_) (fun c5 => ?_)
        · skip
          have hF := hF.trans (if_pos c5)
          refine lv_iconst (v := 0) hx hb dX8_takenOf_59 (by decide) ?_
          refine lv_ior hx hb dX8_takenOf_60 ?_
          refine lv_istore (lv' := [(4, .int (x4_6 ||| 0)), (0, .ref (Z.1 30 0)), (1, .int a1), (2, .int a2), (3, .int a3), (5, .int x5_6)]) hx hb dX8_takenOf_61 hl (by decide) rfl (fun ls hl => ?_)
          refine lv_iinc (v := x5_6 + 1) (lv' := [(5, .int (x5_6 + 1)), (4, .int (x4_6 ||| 0)), (0, .ref (Z.1 30 0)), (1, .int a1), (2, .int a2), (3, .int a3)]) hx hb dX8_takenOf_63 hl (k := 5) rfl rfl (by decide) rfl (fun ls hl => ?_)
          refine lv_goto (tgt := 6) hx hb dX8_takenOf_66 (by decide) ?_
          have hl := lv_sub (l' := [(0, .ref (Z.1 30 0)), (1, .int a1), (2, .int a2), (3, .int a3), (4, .int (x4_6 ||| 0)), (5, .int (x5_6 + 1))]) hl [2, 3, 4, 5, 1, 0] rfl
          exact ih6 (x4_6 ||| 0) (x5_6 + 1) _ _ _ hF hw hl
        · skip
          have hF := hF.trans (if_neg c5)
          refine lv_aload_n hx hb dX8_takenOf_28 rfl (lv_at hl 0 rfl) ?_
          refine lv_iload_n hx hb dX8_takenOf_29 rfl (lv_at hl 2 rfl) ?_
          refine lv_iload_n hx hb dX8_takenOf_30 rfl (lv_at hl 3 rfl) ?_
          refine lv_aload_n hx hb dX8_takenOf_31 rfl (lv_at hl 0 rfl) ?_
          refine km_get (ci := 8) (C := RX8) (T := TX8) (N := 23) (t := 30) (i := 0) hx hb hts fi_X8_takenOf_X8 hown hK hw (by decide) (by decide) rfl rfl 13 (by decide) (hts (.fieldLink RX8 25 "WrongWordModel" "now" "[I") ow_X8_takenOf_25) rfl dX8_takenOf_32 ?_
          refine lv_iconst (v := 5) hx hb dX8_takenOf_35 (by decide) ?_
          refine km_iald (t := 36) (i := 0) hx hb hK hw (by decide) (by decide) rfl (by unfold vp_in; decide) dX8_takenOf_36 ?_
          refine lv_aload_n hx hb dX8_takenOf_37 rfl (lv_at hl 0 rfl) ?_
          refine km_get (ci := 8) (C := RX8) (T := TX8) (N := 23) (t := 30) (i := 0) hx hb hts fi_X8_takenOf_X8 hown hK hw (by decide) (by decide) rfl rfl 13 (by decide) (hts (.fieldLink RX8 25 "WrongWordModel" "now" "[I") ow_X8_takenOf_25) rfl dX8_takenOf_38 ?_
          refine lv_bipush (v := 6) hx hb dX8_takenOf_41 (by decide) ?_
          refine km_iald (t := 36) (i := 0) hx hb hK hw (by decide) (by decide) rfl (by unfold vp_in; decide) dX8_takenOf_43 ?_
          refine lv_iload hx hb dX8_takenOf_44 (lv_at hl 5 rfl) ?_
          have hs6 : g_X8_isTaken v a2 a3 (v 36 0 (Int32.toNatClampNeg 5)) (v 36 0 (Int32.toNatClampNeg 6)) x5_6 ≠ none := fun q => hs (hF.trans (kb_n q _))
          refine km_cI (As := [.int a2, .int a3, .int (v 36 0 (Int32.toNatClampNeg 5)), .int (v 36 0 (Int32.toNatClampNeg 6)), .int x5_6]) (rest := [.int x4_6]) (n := 5) (q := (RX8, TX8, 23)) (ci := 8) (t := 30) (i := 0) ⟨hx, hb, hml, hown, hts⟩ (d_X8_isTaken l E Z v a2 a3 (v 36 0 (Int32.toNatClampNeg 5)) (v 36 0 (Int32.toNatClampNeg 6)) x5_6 hs6) gX8_takenOf_X8_isTaken rfl hV_X8_isTaken ⟨Nat.le_of_ble_eq_true rfl, Nat.le_of_ble_eq_true rfl⟩ hK hw (by decide) (by decide) rfl rfl rfl hl.1 rfl (Nat.le_of_ble_eq_true rfl) dX8_takenOf_46 rfl rfl (fun r7 v8 H locs hp hw => ?_)
          obtain ⟨hp, hzr7⟩ := hp
          obtain ⟨hp, rfl⟩ := hp
          have hF := hF.trans (kb_some hp _)
          refine lv_if_eq (tgt := 59) hx hb dX8_takenOf_49 (by decide) (fun c9 => ?_) (fun c9 => ?_)
          · skip
            have hF := hF.trans (if_pos c9)
            refine lv_iconst (v := 0) hx hb dX8_takenOf_59 (by decide) ?_
            refine lv_ior hx hb dX8_takenOf_60 ?_
            refine lv_istore (lv' := [(4, .int (x4_6 ||| 0)), (0, .ref (Z.1 30 0)), (1, .int a1), (2, .int a2), (3, .int a3), (5, .int x5_6)]) hx hb dX8_takenOf_61 hl (by decide) rfl (fun ls hl => ?_)
            refine lv_iinc (v := x5_6 + 1) (lv' := [(5, .int (x5_6 + 1)), (4, .int (x4_6 ||| 0)), (0, .ref (Z.1 30 0)), (1, .int a1), (2, .int a2), (3, .int a3)]) hx hb dX8_takenOf_63 hl (k := 5) rfl rfl (by decide) rfl (fun ls hl => ?_)
            refine lv_goto (tgt := 6) hx hb dX8_takenOf_66 (by decide) ?_
            have hl := lv_sub (l' := [(0, .ref (Z.1 30 0)), (1, .int a1), (2, .int a2), (3, .int a3), (4, .int (x4_6 ||| 0)), (5, .int (x5_6 + 1))]) hl [2, 3, 4, 5, 1, 0] rfl
            exact ih6 (x4_6 ||| 0) (x5_6 + 1) _ _ _ hF hw hl
          · skip
            have hF := hF.trans (if_neg c9)
            refine lv_iconst (v := 1) hx hb dX8_takenOf_52 (by decide) ?_
            refine lv_iload hx hb dX8_takenOf_53 (lv_at hl 5 rfl) ?_
            refine lv_ishl hx hb dX8_takenOf_55 ?_
            refine lv_goto (tgt := 60) hx hb dX8_takenOf_56 (by decide) ?_
            refine lv_ior hx hb dX8_takenOf_60 ?_
            refine lv_topi (fun x10 ex10 => ?_)
            have hF := hF.trans (kb_some (congrArg some ex10.symm) _)
            refine lv_istore (lv' := [(4, .int x10), (0, .ref (Z.1 30 0)), (1, .int a1), (2, .int a2), (3, .int a3), (5, .int x5_6)]) hx hb dX8_takenOf_61 hl (by decide) rfl (fun ls hl => ?_)
            refine lv_iinc (v := x5_6 + 1) (lv' := [(5, .int (x5_6 + 1)), (4, .int x10), (0, .ref (Z.1 30 0)), (1, .int a1), (2, .int a2), (3, .int a3)]) hx hb dX8_takenOf_63 hl (k := 5) rfl rfl (by decide) rfl (fun ls hl => ?_)
            refine lv_goto (tgt := 6) hx hb dX8_takenOf_66 (by decide) ?_
            have hl := lv_sub (l' := [(0, .ref (Z.1 30 0)), (1, .int a1), (2, .int a2), (3, .int a3), (4, .int x10), (5, .int (x5_6 + 1))]) hl [2, 3, 4, 5, 1, 0] rfl
            exact ih6 x10 (x5_6 + 1) _ _ _ hF hw hl
  refine lv_iconst (v := 0) hx hb dX8_takenOf_0 (by decide) ?_
  refine lv_istore (lv' := [(4, .int 0), (0, .ref (Z.1 30 0)), (1, .int a1), (2, .int a2), (3, .int a3)]) hx hb dX8_takenOf_1 hl (by decide) rfl (fun ls hl => ?_)
  refine lv_iconst (v := 0) hx hb dX8_takenOf_3 (by decide) ?_
  refine lv_istore (lv' := [(5, .int 0), (4, .int 0), (0, .ref (Z.1 30 0)), (1, .int a1), (2, .int a2), (3, .int a3)]) hx hb dX8_takenOf_4 hl (by decide) rfl (fun ls hl => ?_)
  have hl := lv_sub (l' := [(0, .ref (Z.1 30 0)), (1, .int a1), (2, .int a2), (3, .int a3), (4, .int 0), (5, .int 0)]) hl [2, 3, 4, 5, 1, 0] rfl
  exact loop6 2000 0 0 _ _ _ hF hw hl
abbrev rmX8_man : Room := { frames := 4, cells := 0, slots := 0, locals := 99 }
def b_X8_man_L59 (rec45 : Int32 → Int32 → Int32 → Int32 → Int32 → Int32 → Option (Int32)) (rec59 : Int32 → Int32 → Int32 → Int32 → Int32 → Int32 → Int32 → Option (Int32)) (v : Mm) (a1 : Int32) (x2_59 : Int32) (x3_59 : Int32) (x4_59 : Int32) (x5_59 : Int32) (x6_59 : Int32) (x7_59 : Int32) (x8_59 : Int32) : Option (Int32) := if 6 ≤ x8_59 then (rec45 x2_59 x3_59 x4_59 x5_59 x6_59 (x7_59 + 1)) else (Option.bind (g_X8_takenOf v x2_59 x7_59 x8_59) (fun r20 => Option.bind (g_X8_ones v r20) (fun r23 => if r23 ≤ x3_59 - r23 then (if x6_59 ≤ x3_59 - r23 then (if x6_59 ≤ x3_59 - r23 then (if x6_59 ≤ x3_59 - r23 then (rec59 x2_59 x3_59 x4_59 x5_59 x6_59 x7_59 (x8_59 + 1)) else (rec59 x2_59 x3_59 x4_59 x5_59 (x3_59 - r23) x7_59 (x8_59 + 1))) else (if x6_59 ≤ x3_59 - r23 then (rec59 x2_59 x3_59 x4_59 x8_59 x6_59 x7_59 (x8_59 + 1)) else (rec59 x2_59 x3_59 x4_59 x8_59 (x3_59 - r23) x7_59 (x8_59 + 1)))) else (if x6_59 ≤ x3_59 - r23 then (if x6_59 ≤ x3_59 - r23 then (rec59 x2_59 x3_59 x7_59 x5_59 x6_59 x7_59 (x8_59 + 1)) else (rec59 x2_59 x3_59 x7_59 x5_59 (x3_59 - r23) x7_59 (x8_59 + 1))) else (if x6_59 ≤ x3_59 - r23 then (rec59 x2_59 x3_59 x7_59 x8_59 x6_59 x7_59 (x8_59 + 1)) else (rec59 x2_59 x3_59 x7_59 x8_59 (x3_59 - r23) x7_59 (x8_59 + 1))))) else (if x6_59 ≤ r23 then (if x6_59 ≤ r23 then (if x6_59 ≤ r23 then (rec59 x2_59 x3_59 x4_59 x5_59 x6_59 x7_59 (x8_59 + 1)) else (rec59 x2_59 x3_59 x4_59 x5_59 r23 x7_59 (x8_59 + 1))) else (if x6_59 ≤ r23 then (rec59 x2_59 x3_59 x4_59 x8_59 x6_59 x7_59 (x8_59 + 1)) else (rec59 x2_59 x3_59 x4_59 x8_59 r23 x7_59 (x8_59 + 1)))) else (if x6_59 ≤ r23 then (if x6_59 ≤ r23 then (rec59 x2_59 x3_59 x7_59 x5_59 x6_59 x7_59 (x8_59 + 1)) else (rec59 x2_59 x3_59 x7_59 x5_59 r23 x7_59 (x8_59 + 1))) else (if x6_59 ≤ r23 then (rec59 x2_59 x3_59 x7_59 x8_59 x6_59 x7_59 (x8_59 + 1)) else (rec59 x2_59 x3_59 x7_59 x8_59 r23 x7_59 (x8_59 + 1))))))))
def g_X8_man_L59 (rec45 : Int32 → Int32 → Int32 → Int32 → Int32 → Int32 → Option (Int32)) (v : Mm) (a1 : Int32) : Nat → Int32 → Int32 → Int32 → Int32 → Int32 → Int32 → Int32 → Option (Int32)
  | 0 => fun _ _ _ _ _ _ _ => none
  | n + 1 => b_X8_man_L59 rec45 (g_X8_man_L59 rec45 v a1 n) v a1
def b_X8_man_L45  (rec45 : Int32 → Int32 → Int32 → Int32 → Int32 → Int32 → Option (Int32)) (v : Mm) (a1 : Int32) (x2_45 : Int32) (x3_45 : Int32) (x4_45 : Int32) (x5_45 : Int32) (x6_45 : Int32) (x7_45 : Int32) : Option (Int32) := if v 36 0 (Int32.toNatClampNeg 3) ≤ x7_45 then (if a1 = 0 then (some x4_45) else (if a1 = 1 then (some x5_45) else (some x6_45))) else (g_X8_man_L59 rec45 v a1 2000 x2_45 x3_45 x4_45 x5_45 x6_45 x7_45 0)
def g_X8_man_L45  (v : Mm) (a1 : Int32) : Nat → Int32 → Int32 → Int32 → Int32 → Int32 → Int32 → Option (Int32)
  | 0 => fun _ _ _ _ _ _ => none
  | n + 1 => b_X8_man_L45  (g_X8_man_L45  v a1 n) v a1
def g_X8_man (v : Mm) (a1 : Int32) : Option (Int32) := Option.bind (g_X8_isGate v) (fun r2 => if r2 = 0 then (some ((-1000002))) else (Option.bind (g_X8_in v a1 0 2) (fun r6 => if r6 = 0 then (some ((-1000001))) else (Option.bind (g_X8_agreeing v) (fun r10 => Option.bind (g_X8_ones v r10) (fun r13 => g_X8_man_L45  v a1 2000 r10 r13 0 0 9 0))))))
set_option maxHeartbeats 4000000 in
set_option maxRecDepth 100000 in
theorem d_X8_man (l : Launch) (E : kq_T) (Z : km_Z) (v : Mm) (a1 : Int32) (hs : g_X8_man v a1 ≠ none) : km_I l E Z cntM yX8_man wsX8_man rmX8_man [.ref (Z.1 30 0), .int a1] v (fun r v1 => g_X8_man v a1 = some r ∧ v = v1) := by
  refine km_goI (cc := cX8_man) (maxL := 11) (by decide) rfl (Nat.le_of_ble_eq_true rfl) rfl rfl rfl ?_
  intro p e s m below meth c A ls Q C hK hw hl hret
  obtain ⟨hx, hb, hml, hown, hts, -, -, -⟩ := C
  have hown : s.vm.findClass RX8 = some m.cls := hown
  have hl : lv_has ls 11 [(0, .ref (Z.1 30 0)), (1, .int a1)] := hl
  have hF := g_X8_man.eq_1 v a1
  have loop45 : ∀ (n45 : Nat) (x2_45 : Int32) (x3_45 : Int32) (x4_45 : Int32) (x5_45 : Int32) (x6_45 : Int32) (x7_45 : Int32) (H : Heap) (locs : List Loc) (ls : Array Slot), g_X8_man v a1 = g_X8_man_L45  v a1 n45 x2_45 x3_45 x4_45 x5_45 x6_45 x7_45 → km_w E A s.heap [] Z cntM v H locs → lv_has ls 11 [(0, .ref (Z.1 30 0)), (1, .int a1), (2, .int x2_45), (3, .int x3_45), (4, .int x4_45), (5, .int x5_45), (6, .int x6_45), (7, .int x7_45)] → W p l e rmX8_man s m [.ref (Z.1 30 0), .int a1].toArray below meth c H locs 0 0 Q (F0 m 45 ls []) := by
    intro n45
    induction n45 with
    | zero => intro x2_45 x3_45 x4_45 x5_45 x6_45 x7_45 H locs ls hF hw hl; exact absurd (show g_X8_man v a1 = none from hF) hs
    | succ n45 ih45 =>
      intro x2_45 x3_45 x4_45 x5_45 x6_45 x7_45 H locs ls hF hw hl
      have hF := hF.trans (b_X8_man_L45.eq_1  (g_X8_man_L45  v a1 n45) v a1 x2_45 x3_45 x4_45 x5_45 x6_45 x7_45)
      have loop59 : ∀ (n59 : Nat) (x2_59 : Int32) (x3_59 : Int32) (x4_59 : Int32) (x5_59 : Int32) (x6_59 : Int32) (x7_59 : Int32) (x8_59 : Int32) (H : Heap) (locs : List Loc) (ls : Array Slot), g_X8_man v a1 = g_X8_man_L59 (g_X8_man_L45  v a1 n45) v a1 n59 x2_59 x3_59 x4_59 x5_59 x6_59 x7_59 x8_59 → km_w E A s.heap [] Z cntM v H locs → lv_has ls 11 [(0, .ref (Z.1 30 0)), (1, .int a1), (2, .int x2_59), (3, .int x3_59), (4, .int x4_59), (5, .int x5_59), (6, .int x6_59), (7, .int x7_59), (8, .int x8_59)] → W p l e rmX8_man s m [.ref (Z.1 30 0), .int a1].toArray below meth c H locs 0 0 Q (F0 m 59 ls []) := by
        intro n59
        induction n59 with
        | zero => intro x2_59 x3_59 x4_59 x5_59 x6_59 x7_59 x8_59 H locs ls hF hw hl; exact absurd (show g_X8_man v a1 = none from hF) hs
        | succ n59 ih59 =>
          intro x2_59 x3_59 x4_59 x5_59 x6_59 x7_59 x8_59 H locs ls hF hw hl
          have hF := hF.trans (b_X8_man_L59.eq_1 (g_X8_man_L45  v a1 n45) (g_X8_man_L59 (g_X8_man_L45  v a1 n45) v a1 n59) v a1 x2_59 x3_59 x4_59 x5_59 x6_59 x7_59 x8_59)
          refine lv_iload hx hb dX8_man_59 (lv_at hl 8 rfl) ?_
          refine lv_bipush (v := 6) hx hb dX8_man_61 (by decide) ?_
          refine lv_icmp_ge (tgt := 154) hx hb dX8_man_63 (by decide) (fun c1 => ?_) (fun c1 => ?_)
          · skip
            have hF := hF.trans (if_pos c1)
            refine lv_iinc (v := x7_59 + 1) (lv' := [(7, .int (x7_59 + 1)), (0, .ref (Z.1 30 0)), (1, .int a1), (2, .int x2_59), (3, .int x3_59), (4, .int x4_59), (5, .int x5_59), (6, .int x6_59), (8, .int x8_59)]) hx hb dX8_man_154 hl (k := 7) rfl rfl (by decide) rfl (fun ls hl => ?_)
            refine lv_goto (tgt := 45) hx hb dX8_man_157 (by decide) ?_
            have hl := lv_sub (l' := [(0, .ref (Z.1 30 0)), (1, .int a1), (2, .int x2_59), (3, .int x3_59), (4, .int x4_59), (5, .int x5_59), (6, .int x6_59), (7, .int (x7_59 + 1))]) hl [1, 2, 3, 4, 5, 6, 7, 0] rfl
            exact ih45 x2_59 x3_59 x4_59 x5_59 x6_59 (x7_59 + 1) _ _ _ hF hw hl
          · skip
            have hF := hF.trans (if_neg c1)
            refine lv_aload_n hx hb dX8_man_66 rfl (lv_at hl 0 rfl) ?_
            refine lv_iload_n hx hb dX8_man_67 rfl (lv_at hl 2 rfl) ?_
            refine lv_iload hx hb dX8_man_68 (lv_at hl 7 rfl) ?_
            refine lv_iload hx hb dX8_man_70 (lv_at hl 8 rfl) ?_
            have hs2 : g_X8_takenOf v x2_59 x7_59 x8_59 ≠ none := fun q => hs (hF.trans (kb_n q _))
            refine km_cI (As := [.int x2_59, .int x7_59, .int x8_59]) (rest := []) (n := 3) (q := (RX8, TX8, 23)) (ci := 8) (t := 30) (i := 0) ⟨hx, hb, hml, hown, hts⟩ (d_X8_takenOf l E Z v x2_59 x7_59 x8_59 hs2) gX8_man_X8_takenOf rfl hV_X8_takenOf ⟨Nat.le_of_ble_eq_true rfl, Nat.le_of_ble_eq_true rfl⟩ hK hw (by decide) (by decide) rfl rfl rfl hl.1 rfl (Nat.le_of_ble_eq_true rfl) dX8_man_72 rfl rfl (fun r3 v4 H locs hp hw => ?_)
            obtain ⟨hp, rfl⟩ := hp
            have hF := hF.trans (kb_some hp _)
            have hs5 : g_X8_ones v r3 ≠ none := fun q => hs (hF.trans (kb_n q _))
            refine km_cS (As := [.int r3]) (rest := []) (n := 1) ⟨hx, hb, hml, hown, hts⟩ (d_X8_ones l E Z v r3 hs5) gX8_man_X8_ones rfl hV_X8_ones ⟨Nat.le_of_ble_eq_true rfl, Nat.le_of_ble_eq_true rfl⟩ hK hw rfl hl.1 rfl (Nat.le_of_ble_eq_true rfl) dX8_man_75 rfl rfl (fun r6 v7 H locs hp hw => ?_)
            obtain ⟨hp, rfl⟩ := hp
            have hF := hF.trans (kb_some hp _)
            refine lv_istore (lv' := [(9, .int r6), (0, .ref (Z.1 30 0)), (1, .int a1), (2, .int x2_59), (3, .int x3_59), (4, .int x4_59), (5, .int x5_59), (6, .int x6_59), (7, .int x7_59), (8, .int x8_59)]) hx hb dX8_man_78 hl (by decide) rfl (fun ls hl => ?_)
            refine lv_iload hx hb dX8_man_80 (lv_at hl 0 rfl) ?_
            refine lv_iload_n hx hb dX8_man_82 rfl (lv_at hl 4 rfl) ?_
            refine lv_iload hx hb dX8_man_83 (lv_at hl 0 rfl) ?_
            refine lv_isub hx hb dX8_man_85 ?_
            refine lv_icmp_le (tgt := 94) hx hb dX8_man_86 (by decide) (fun c8 => ?_) (fun c8 => ?_)
            · skip
              have hF := hF.trans (if_pos c8)
              refine lv_iload_n hx hb dX8_man_94 rfl (lv_at hl 4 rfl) ?_
              refine lv_iload hx hb dX8_man_95 (lv_at hl 0 rfl) ?_
              refine lv_isub hx hb dX8_man_97 ?_
              refine lv_istore (lv' := [(10, .int (x3_59 - r6)), (9, .int r6), (0, .ref (Z.1 30 0)), (1, .int a1), (2, .int x2_59), (3, .int x3_59), (4, .int x4_59), (5, .int x5_59), (6, .int x6_59), (7, .int x7_59), (8, .int x8_59)]) hx hb dX8_man_98 hl (by decide) rfl (fun ls hl => ?_)
              refine lv_iload hx hb dX8_man_100 (lv_at hl 0 rfl) ?_
              refine lv_iload hx hb dX8_man_102 (lv_at hl 8 rfl) ?_
              refine lv_icmp_ge (tgt := 112) hx hb dX8_man_104 (by decide) (fun c9 => ?_) (fun c9 => ?_)
              · skip
                have hF := hF.trans (if_pos c9)
                refine lv_iload hx hb dX8_man_112 (lv_at hl 6 rfl) ?_
                refine lv_istore (lv' := [(4, .int x4_59), (10, .int (x3_59 - r6)), (9, .int r6), (0, .ref (Z.1 30 0)), (1, .int a1), (2, .int x2_59), (3, .int x3_59), (5, .int x5_59), (6, .int x6_59), (7, .int x7_59), (8, .int x8_59)]) hx hb dX8_man_114 hl (by decide) rfl (fun ls hl => ?_)
                refine lv_iload hx hb dX8_man_116 (lv_at hl 1 rfl) ?_
                refine lv_iload hx hb dX8_man_118 (lv_at hl 8 rfl) ?_
                refine lv_icmp_ge (tgt := 128) hx hb dX8_man_120 (by decide) (fun c10 => ?_) (fun c10 => ?_)
                · skip
                  have hF := hF.trans (if_pos c10)
                  refine lv_iload hx hb dX8_man_128 (lv_at hl 7 rfl) ?_
                  refine lv_istore (lv' := [(5, .int x5_59), (4, .int x4_59), (10, .int (x3_59 - r6)), (9, .int r6), (0, .ref (Z.1 30 0)), (1, .int a1), (2, .int x2_59), (3, .int x3_59), (6, .int x6_59), (7, .int x7_59), (8, .int x8_59)]) hx hb dX8_man_130 hl (by decide) rfl (fun ls hl => ?_)
                  refine lv_iload hx hb dX8_man_132 (lv_at hl 2 rfl) ?_
                  refine lv_iload hx hb dX8_man_134 (lv_at hl 8 rfl) ?_
                  refine lv_icmp_ge (tgt := 144) hx hb dX8_man_136 (by decide) (fun c11 => ?_) (fun c11 => ?_)
                  · skip
                    have hF := hF.trans (if_pos c11)
                    refine lv_iload hx hb dX8_man_144 (lv_at hl 8 rfl) ?_
                    refine lv_istore (lv' := [(6, .int x6_59), (5, .int x5_59), (4, .int x4_59), (10, .int (x3_59 - r6)), (9, .int r6), (0, .ref (Z.1 30 0)), (1, .int a1), (2, .int x2_59), (3, .int x3_59), (7, .int x7_59), (8, .int x8_59)]) hx hb dX8_man_146 hl (by decide) rfl (fun ls hl => ?_)
                    refine lv_iinc (v := x8_59 + 1) (lv' := [(8, .int (x8_59 + 1)), (6, .int x6_59), (5, .int x5_59), (4, .int x4_59), (10, .int (x3_59 - r6)), (9, .int r6), (0, .ref (Z.1 30 0)), (1, .int a1), (2, .int x2_59), (3, .int x3_59), (7, .int x7_59)]) hx hb dX8_man_148 hl (k := 10) rfl rfl (by decide) rfl (fun ls hl => ?_)
                    refine lv_goto (tgt := 59) hx hb dX8_man_151 (by decide) ?_
                    have hl := lv_sub (l' := [(0, .ref (Z.1 30 0)), (1, .int a1), (2, .int x2_59), (3, .int x3_59), (4, .int x4_59), (5, .int x5_59), (6, .int x6_59), (7, .int x7_59), (8, .int (x8_59 + 1))]) hl [6, 7, 8, 9, 3, 2, 1, 10, 0] rfl
                    exact ih59 x2_59 x3_59 x4_59 x5_59 x6_59 x7_59 (x8_59 + 1) _ _ _ hF hw hl
                  · skip
                    have hF := hF.trans (if_neg c11)
                    refine lv_iload hx hb dX8_man_139 (lv_at hl 2 rfl) ?_
                    refine lv_goto (tgt := 146) hx hb dX8_man_141 (by decide) ?_
                    refine lv_istore (lv' := [(6, .int (x3_59 - r6)), (5, .int x5_59), (4, .int x4_59), (10, .int (x3_59 - r6)), (9, .int r6), (0, .ref (Z.1 30 0)), (1, .int a1), (2, .int x2_59), (3, .int x3_59), (7, .int x7_59), (8, .int x8_59)]) hx hb dX8_man_146 hl (by decide) rfl (fun ls hl => ?_)
                    refine lv_iinc (v := x8_59 + 1) (lv' := [(8, .int (x8_59 + 1)), (6, .int (x3_59 - r6)), (5, .int x5_59), (4, .int x4_59), (10, .int (x3_59 - r6)), (9, .int r6), (0, .ref (Z.1 30 0)), (1, .int a1), (2, .int x2_59), (3, .int x3_59), (7, .int x7_59)]) hx hb dX8_man_148 hl (k := 10) rfl rfl (by decide) rfl (fun ls hl => ?_)
                    refine lv_goto (tgt := 59) hx hb dX8_man_151 (by decide) ?_
                    have hl := lv_sub (l' := [(0, .ref (Z.1 30 0)), (1, .int a1), (2, .int x2_59), (3, .int x3_59), (4, .int x4_59), (5, .int x5_59), (6, .int (x3_59 - r6)), (7, .int x7_59), (8, .int (x8_59 + 1))]) hl [6, 7, 8, 9, 3, 2, 1, 10, 0] rfl
                    exact ih59 x2_59 x3_59 x4_59 x5_59 (x3_59 - r6) x7_59 (x8_59 + 1) _ _ _ hF hw hl
                · skip
                  have hF := hF.trans (if_neg c10)
                  refine lv_iload hx hb dX8_man_123 (lv_at hl 10 rfl) ?_
                  refine lv_goto (tgt := 130) hx hb dX8_man_125 (by decide) ?_
                  refine lv_istore (lv' := [(5, .int x8_59), (4, .int x4_59), (10, .int (x3_59 - r6)), (9, .int r6), (0, .ref (Z.1 30 0)), (1, .int a1), (2, .int x2_59), (3, .int x3_59), (6, .int x6_59), (7, .int x7_59), (8, .int x8_59)]) hx hb dX8_man_130 hl (by decide) rfl (fun ls hl => ?_)
                  refine lv_iload hx hb dX8_man_132 (lv_at hl 2 rfl) ?_
                  refine lv_iload hx hb dX8_man_134 (lv_at hl 8 rfl) ?_
                  refine lv_icmp_ge (tgt := 144) hx hb dX8_man_136 (by decide) (fun c12 => ?_) (fun c12 => ?_)
                  · skip
                    have hF := hF.trans (if_pos c12)
                    refine lv_iload hx hb dX8_man_144 (lv_at hl 8 rfl) ?_
                    refine lv_istore (lv' := [(6, .int x6_59), (5, .int x8_59), (4, .int x4_59), (10, .int (x3_59 - r6)), (9, .int r6), (0, .ref (Z.1 30 0)), (1, .int a1), (2, .int x2_59), (3, .int x3_59), (7, .int x7_59), (8, .int x8_59)]) hx hb dX8_man_146 hl (by decide) rfl (fun ls hl => ?_)
                    refine lv_iinc (v := x8_59 + 1) (lv' := [(8, .int (x8_59 + 1)), (6, .int x6_59), (5, .int x8_59), (4, .int x4_59), (10, .int (x3_59 - r6)), (9, .int r6), (0, .ref (Z.1 30 0)), (1, .int a1), (2, .int x2_59), (3, .int x3_59), (7, .int x7_59)]) hx hb dX8_man_148 hl (k := 10) rfl rfl (by decide) rfl (fun ls hl => ?_)
                    refine lv_goto (tgt := 59) hx hb dX8_man_151 (by decide) ?_
                    have hl := lv_sub (l' := [(0, .ref (Z.1 30 0)), (1, .int a1), (2, .int x2_59), (3, .int x3_59), (4, .int x4_59), (5, .int x8_59), (6, .int x6_59), (7, .int x7_59), (8, .int (x8_59 + 1))]) hl [6, 7, 8, 9, 3, 2, 1, 10, 0] rfl
                    exact ih59 x2_59 x3_59 x4_59 x8_59 x6_59 x7_59 (x8_59 + 1) _ _ _ hF hw hl
                  · skip
                    have hF := hF.trans (if_neg c12)
                    refine lv_iload hx hb dX8_man_139 (lv_at hl 2 rfl) ?_
                    refine lv_goto (tgt := 146) hx hb dX8_man_141 (by decide) ?_
                    refine lv_istore (lv' := [(6, .int (x3_59 - r6)), (5, .int x8_59), (4, .int x4_59), (10, .int (x3_59 - r6)), (9, .int r6), (0, .ref (Z.1 30 0)), (1, .int a1), (2, .int x2_59), (3, .int x3_59), (7, .int x7_59), (8, .int x8_59)]) hx hb dX8_man_146 hl (by decide) rfl (fun ls hl => ?_)
                    refine lv_iinc (v := x8_59 + 1) (lv' := [(8, .int (x8_59 + 1)), (6, .int (x3_59 - r6)), (5, .int x8_59), (4, .int x4_59), (10, .int (x3_59 - r6)), (9, .int r6), (0, .ref (Z.1 30 0)), (1, .int a1), (2, .int x2_59), (3, .int x3_59), (7, .int x7_59)]) hx hb dX8_man_148 hl (k := 10) rfl rfl (by decide) rfl (fun ls hl => ?_)
                    refine lv_goto (tgt := 59) hx hb dX8_man_151 (by decide) ?_
                    have hl := lv_sub (l' := [(0, .ref (Z.1 30 0)), (1, .int a1), (2, .int x2_59), (3, .int x3_59), (4, .int x4_59), (5, .int x8_59), (6, .int (x3_59 - r6)), (7, .int x7_59), (8, .int (x8_59 + 1))]) hl [6, 7, 8, 9, 3, 2, 1, 10, 0] rfl
                    exact ih59 x2_59 x3_59 x4_59 x8_59 (x3_59 - r6) x7_59 (x8_59 + 1) _ _ _ hF hw hl
              · skip
                have hF := hF.trans (if_neg c9)
                refine lv_iload hx hb dX8_man_107 (lv_at hl 9 rfl) ?_
                refine lv_goto (tgt := 114) hx hb dX8_man_109 (by decide) ?_
                refine lv_istore (lv' := [(4, .int x7_59), (10, .int (x3_59 - r6)), (9, .int r6), (0, .ref (Z.1 30 0)), (1, .int a1), (2, .int x2_59), (3, .int x3_59), (5, .int x5_59), (6, .int x6_59), (7, .int x7_59), (8, .int x8_59)]) hx hb dX8_man_114 hl (by decide) rfl (fun ls hl => ?_)
                refine lv_iload hx hb dX8_man_116 (lv_at hl 1 rfl) ?_
                refine lv_iload hx hb dX8_man_118 (lv_at hl 8 rfl) ?_
                refine lv_icmp_ge (tgt := 128) hx hb dX8_man_120 (by decide) (fun c13 => ?_) (fun c13 => ?_)
                · skip
                  have hF := hF.trans (if_pos c13)
                  refine lv_iload hx hb dX8_man_128 (lv_at hl 7 rfl) ?_
                  refine lv_istore (lv' := [(5, .int x5_59), (4, .int x7_59), (10, .int (x3_59 - r6)), (9, .int r6), (0, .ref (Z.1 30 0)), (1, .int a1), (2, .int x2_59), (3, .int x3_59), (6, .int x6_59), (7, .int x7_59), (8, .int x8_59)]) hx hb dX8_man_130 hl (by decide) rfl (fun ls hl => ?_)
                  refine lv_iload hx hb dX8_man_132 (lv_at hl 2 rfl) ?_
                  refine lv_iload hx hb dX8_man_134 (lv_at hl 8 rfl) ?_
                  refine lv_icmp_ge (tgt := 144) hx hb dX8_man_136 (by decide) (fun c14 => ?_) (fun c14 => ?_)
                  · skip
                    have hF := hF.trans (if_pos c14)
                    refine lv_iload hx hb dX8_man_144 (lv_at hl 8 rfl) ?_
                    refine lv_istore (lv' := [(6, .int x6_59), (5, .int x5_59), (4, .int x7_59), (10, .int (x3_59 - r6)), (9, .int r6), (0, .ref (Z.1 30 0)), (1, .int a1), (2, .int x2_59), (3, .int x3_59), (7, .int x7_59), (8, .int x8_59)]) hx hb dX8_man_146 hl (by decide) rfl (fun ls hl => ?_)
                    refine lv_iinc (v := x8_59 + 1) (lv' := [(8, .int (x8_59 + 1)), (6, .int x6_59), (5, .int x5_59), (4, .int x7_59), (10, .int (x3_59 - r6)), (9, .int r6), (0, .ref (Z.1 30 0)), (1, .int a1), (2, .int x2_59), (3, .int x3_59), (7, .int x7_59)]) hx hb dX8_man_148 hl (k := 10) rfl rfl (by decide) rfl (fun ls hl => ?_)
                    refine lv_goto (tgt := 59) hx hb dX8_man_151 (by decide) ?_
                    have hl := lv_sub (l' := [(0, .ref (Z.1 30 0)), (1, .int a1), (2, .int x2_59), (3, .int x3_59), (4, .int x7_59), (5, .int x5_59), (6, .int x6_59), (7, .int x7_59), (8, .int (x8_59 + 1))]) hl [6, 7, 8, 9, 3, 2, 1, 10, 0] rfl
                    exact ih59 x2_59 x3_59 x7_59 x5_59 x6_59 x7_59 (x8_59 + 1) _ _ _ hF hw hl
                  · skip
                    have hF := hF.trans (if_neg c14)
                    refine lv_iload hx hb dX8_man_139 (lv_at hl 2 rfl) ?_
                    refine lv_goto (tgt := 146) hx hb dX8_man_141 (by decide) ?_
                    refine lv_istore (lv' := [(6, .int (x3_59 - r6)), (5, .int x5_59), (4, .int x7_59), (10, .int (x3_59 - r6)), (9, .int r6), (0, .ref (Z.1 30 0)), (1, .int a1), (2, .int x2_59), (3, .int x3_59), (7, .int x7_59), (8, .int x8_59)]) hx hb dX8_man_146 hl (by decide) rfl (fun ls hl => ?_)
                    refine lv_iinc (v := x8_59 + 1) (lv' := [(8, .int (x8_59 + 1)), (6, .int (x3_59 - r6)), (5, .int x5_59), (4, .int x7_59), (10, .int (x3_59 - r6)), (9, .int r6), (0, .ref (Z.1 30 0)), (1, .int a1), (2, .int x2_59), (3, .int x3_59), (7, .int x7_59)]) hx hb dX8_man_148 hl (k := 10) rfl rfl (by decide) rfl (fun ls hl => ?_)
                    refine lv_goto (tgt := 59) hx hb dX8_man_151 (by decide) ?_
                    have hl := lv_sub (l' := [(0, .ref (Z.1 30 0)), (1, .int a1), (2, .int x2_59), (3, .int x3_59), (4, .int x7_59), (5, .int x5_59), (6, .int (x3_59 - r6)), (7, .int x7_59), (8, .int (x8_59 + 1))]) hl [6, 7, 8, 9, 3, 2, 1, 10, 0] rfl
                    exact ih59 x2_59 x3_59 x7_59 x5_59 (x3_59 - r6) x7_59 (x8_59 + 1) _ _ _ hF hw hl
                · skip
                  have hF := hF.trans (if_neg c13)
                  refine lv_iload hx hb dX8_man_123 (lv_at hl 10 rfl) ?_
                  refine lv_goto (tgt := 130) hx hb dX8_man_125 (by decide) ?_
                  refine lv_istore (lv' := [(5, .int x8_59), (4, .int x7_59), (10, .int (x3_59 - r6)), (9, .int r6), (0, .ref (Z.1 30 0)), (1, .int a1), (2, .int x2_59), (3, .int x3_59), (6, .int x6_59), (7, .int x7_59), (8, .int x8_59)]) hx hb dX8_man_130 hl (by decide) rfl (fun ls hl => ?_)
                  refine lv_iload hx hb dX8_man_132 (lv_at hl 2 rfl) ?_
                  refine lv_iload hx hb dX8_man_134 (lv_at hl 8 rfl) ?_
                  refine lv_icmp_ge (tgt := 144) hx hb dX8_man_136 (by decide) (fun c15 => ?_) (fun c15 => ?_)
                  · skip
                    have hF := hF.trans (if_pos c15)
                    refine lv_iload hx hb dX8_man_144 (lv_at hl 8 rfl) ?_
                    refine lv_istore (lv' := [(6, .int x6_59), (5, .int x8_59), (4, .int x7_59), (10, .int (x3_59 - r6)), (9, .int r6), (0, .ref (Z.1 30 0)), (1, .int a1), (2, .int x2_59), (3, .int x3_59), (7, .int x7_59), (8, .int x8_59)]) hx hb dX8_man_146 hl (by decide) rfl (fun ls hl => ?_)
                    refine lv_iinc (v := x8_59 + 1) (lv' := [(8, .int (x8_59 + 1)), (6, .int x6_59), (5, .int x8_59), (4, .int x7_59), (10, .int (x3_59 - r6)), (9, .int r6), (0, .ref (Z.1 30 0)), (1, .int a1), (2, .int x2_59), (3, .int x3_59), (7, .int x7_59)]) hx hb dX8_man_148 hl (k := 10) rfl rfl (by decide) rfl (fun ls hl => ?_)
                    refine lv_goto (tgt := 59) hx hb dX8_man_151 (by decide) ?_
                    have hl := lv_sub (l' := [(0, .ref (Z.1 30 0)), (1, .int a1), (2, .int x2_59), (3, .int x3_59), (4, .int x7_59), (5, .int x8_59), (6, .int x6_59), (7, .int x7_59), (8, .int (x8_59 + 1))]) hl [6, 7, 8, 9, 3, 2, 1, 10, 0] rfl
                    exact ih59 x2_59 x3_59 x7_59 x8_59 x6_59 x7_59 (x8_59 + 1) _ _ _ hF hw hl
                  · skip
                    have hF := hF.trans (if_neg c15)
                    refine lv_iload hx hb dX8_man_139 (lv_at hl 2 rfl) ?_
                    refine lv_goto (tgt := 146) hx hb dX8_man_141 (by decide) ?_
                    refine lv_istore (lv' := [(6, .int (x3_59 - r6)), (5, .int x8_59), (4, .int x7_59), (10, .int (x3_59 - r6)), (9, .int r6), (0, .ref (Z.1 30 0)), (1, .int a1), (2, .int x2_59), (3, .int x3_59), (7, .int x7_59), (8, .int x8_59)]) hx hb dX8_man_146 hl (by decide) rfl (fun ls hl => ?_)
                    refine lv_iinc (v := x8_59 + 1) (lv' := [(8, .int (x8_59 + 1)), (6, .int (x3_59 - r6)), (5, .int x8_59), (4, .int x7_59), (10, .int (x3_59 - r6)), (9, .int r6), (0, .ref (Z.1 30 0)), (1, .int a1), (2, .int x2_59), (3, .int x3_59), (7, .int x7_59)]) hx hb dX8_man_148 hl (k := 10) rfl rfl (by decide) rfl (fun ls hl => ?_)
                    refine lv_goto (tgt := 59) hx hb dX8_man_151 (by decide) ?_
                    have hl := lv_sub (l' := [(0, .ref (Z.1 30 0)), (1, .int a1), (2, .int x2_59), (3, .int x3_59), (4, .int x7_59), (5, .int x8_59), (6, .int (x3_59 - r6)), (7, .int x7_59), (8, .int (x8_59 + 1))]) hl [6, 7, 8, 9, 3, 2, 1, 10, 0] rfl
                    exact ih59 x2_59 x3_59 x7_59 x8_59 (x3_59 - r6) x7_59 (x8_59 + 1) _ _ _ hF hw hl
            · skip
              have hF := hF.trans (if_neg c8)
              refine lv_iload hx hb dX8_man_89 (lv_at hl 0 rfl) ?_
              refine lv_goto (tgt := 98) hx hb dX8_man_91 (by decide) ?_
              refine lv_istore (lv' := [(10, .int r6), (9, .int r6), (0, .ref (Z.1 30 0)), (1, .int a1), (2, .int x2_59), (3, .int x3_59), (4, .int x4_59), (5, .int x5_59), (6, .int x6_59), (7, .int x7_59), (8, .int x8_59)]) hx hb dX8_man_98 hl (by decide) rfl (fun ls hl => ?_)
              refine lv_iload hx hb dX8_man_100 (lv_at hl 0 rfl) ?_
              refine lv_iload hx hb dX8_man_102 (lv_at hl 8 rfl) ?_
              refine lv_icmp_ge (tgt := 112) hx hb dX8_man_104 (by decide) (fun c16 => ?_) (fun c16 => ?_)
              · skip
                have hF := hF.trans (if_pos c16)
                refine lv_iload hx hb dX8_man_112 (lv_at hl 6 rfl) ?_
                refine lv_istore (lv' := [(4, .int x4_59), (10, .int r6), (9, .int r6), (0, .ref (Z.1 30 0)), (1, .int a1), (2, .int x2_59), (3, .int x3_59), (5, .int x5_59), (6, .int x6_59), (7, .int x7_59), (8, .int x8_59)]) hx hb dX8_man_114 hl (by decide) rfl (fun ls hl => ?_)
                refine lv_iload hx hb dX8_man_116 (lv_at hl 1 rfl) ?_
                refine lv_iload hx hb dX8_man_118 (lv_at hl 8 rfl) ?_
                refine lv_icmp_ge (tgt := 128) hx hb dX8_man_120 (by decide) (fun c17 => ?_) (fun c17 => ?_)
                · skip
                  have hF := hF.trans (if_pos c17)
                  refine lv_iload hx hb dX8_man_128 (lv_at hl 7 rfl) ?_
                  refine lv_istore (lv' := [(5, .int x5_59), (4, .int x4_59), (10, .int r6), (9, .int r6), (0, .ref (Z.1 30 0)), (1, .int a1), (2, .int x2_59), (3, .int x3_59), (6, .int x6_59), (7, .int x7_59), (8, .int x8_59)]) hx hb dX8_man_130 hl (by decide) rfl (fun ls hl => ?_)
                  refine lv_iload hx hb dX8_man_132 (lv_at hl 2 rfl) ?_
                  refine lv_iload hx hb dX8_man_134 (lv_at hl 8 rfl) ?_
                  refine lv_icmp_ge (tgt := 144) hx hb dX8_man_136 (by decide) (fun c18 => ?_) (fun c18 => ?_)
                  · skip
                    have hF := hF.trans (if_pos c18)
                    refine lv_iload hx hb dX8_man_144 (lv_at hl 8 rfl) ?_
                    refine lv_istore (lv' := [(6, .int x6_59), (5, .int x5_59), (4, .int x4_59), (10, .int r6), (9, .int r6), (0, .ref (Z.1 30 0)), (1, .int a1), (2, .int x2_59), (3, .int x3_59), (7, .int x7_59), (8, .int x8_59)]) hx hb dX8_man_146 hl (by decide) rfl (fun ls hl => ?_)
                    refine lv_iinc (v := x8_59 + 1) (lv' := [(8, .int (x8_59 + 1)), (6, .int x6_59), (5, .int x5_59), (4, .int x4_59), (10, .int r6), (9, .int r6), (0, .ref (Z.1 30 0)), (1, .int a1), (2, .int x2_59), (3, .int x3_59), (7, .int x7_59)]) hx hb dX8_man_148 hl (k := 10) rfl rfl (by decide) rfl (fun ls hl => ?_)
                    refine lv_goto (tgt := 59) hx hb dX8_man_151 (by decide) ?_
                    have hl := lv_sub (l' := [(0, .ref (Z.1 30 0)), (1, .int a1), (2, .int x2_59), (3, .int x3_59), (4, .int x4_59), (5, .int x5_59), (6, .int x6_59), (7, .int x7_59), (8, .int (x8_59 + 1))]) hl [6, 7, 8, 9, 3, 2, 1, 10, 0] rfl
                    exact ih59 x2_59 x3_59 x4_59 x5_59 x6_59 x7_59 (x8_59 + 1) _ _ _ hF hw hl
                  · skip
                    have hF := hF.trans (if_neg c18)
                    refine lv_iload hx hb dX8_man_139 (lv_at hl 2 rfl) ?_
                    refine lv_goto (tgt := 146) hx hb dX8_man_141 (by decide) ?_
                    refine lv_istore (lv' := [(6, .int r6), (5, .int x5_59), (4, .int x4_59), (10, .int r6), (9, .int r6), (0, .ref (Z.1 30 0)), (1, .int a1), (2, .int x2_59), (3, .int x3_59), (7, .int x7_59), (8, .int x8_59)]) hx hb dX8_man_146 hl (by decide) rfl (fun ls hl => ?_)
                    refine lv_iinc (v := x8_59 + 1) (lv' := [(8, .int (x8_59 + 1)), (6, .int r6), (5, .int x5_59), (4, .int x4_59), (10, .int r6), (9, .int r6), (0, .ref (Z.1 30 0)), (1, .int a1), (2, .int x2_59), (3, .int x3_59), (7, .int x7_59)]) hx hb dX8_man_148 hl (k := 10) rfl rfl (by decide) rfl (fun ls hl => ?_)
                    refine lv_goto (tgt := 59) hx hb dX8_man_151 (by decide) ?_
                    have hl := lv_sub (l' := [(0, .ref (Z.1 30 0)), (1, .int a1), (2, .int x2_59), (3, .int x3_59), (4, .int x4_59), (5, .int x5_59), (6, .int r6), (7, .int x7_59), (8, .int (x8_59 + 1))]) hl [6, 7, 8, 9, 3, 2, 1, 10, 0] rfl
                    exact ih59 x2_59 x3_59 x4_59 x5_59 r6 x7_59 (x8_59 + 1) _ _ _ hF hw hl
                · skip
                  have hF := hF.trans (if_neg c17)
                  refine lv_iload hx hb dX8_man_123 (lv_at hl 10 rfl) ?_
                  refine lv_goto (tgt := 130) hx hb dX8_man_125 (by decide) ?_
                  refine lv_istore (lv' := [(5, .int x8_59), (4, .int x4_59), (10, .int r6), (9, .int r6), (0, .ref (Z.1 30 0)), (1, .int a1), (2, .int x2_59), (3, .int x3_59), (6, .int x6_59), (7, .int x7_59), (8, .int x8_59)]) hx hb dX8_man_130 hl (by decide) rfl (fun ls hl => ?_)
                  refine lv_iload hx hb dX8_man_132 (lv_at hl 2 rfl) ?_
                  refine lv_iload hx hb dX8_man_134 (lv_at hl 8 rfl) ?_
                  refine lv_icmp_ge (tgt := 144) hx hb dX8_man_136 (by decide) (fun c19 => ?_) (fun c19 => ?_)
                  · skip
                    have hF := hF.trans (if_pos c19)
                    refine lv_iload hx hb dX8_man_144 (lv_at hl 8 rfl) ?_
                    refine lv_istore (lv' := [(6, .int x6_59), (5, .int x8_59), (4, .int x4_59), (10, .int r6), (9, .int r6), (0, .ref (Z.1 30 0)), (1, .int a1), (2, .int x2_59), (3, .int x3_59), (7, .int x7_59), (8, .int x8_59)]) hx hb dX8_man_146 hl (by decide) rfl (fun ls hl => ?_)
                    refine lv_iinc (v := x8_59 + 1) (lv' := [(8, .int (x8_59 + 1)), (6, .int x6_59), (5, .int x8_59), (4, .int x4_59), (10, .int r6), (9, .int r6), (0, .ref (Z.1 30 0)), (1, .int a1), (2, .int x2_59), (3, .int x3_59), (7, .int x7_59)]) hx hb dX8_man_148 hl (k := 10) rfl rfl (by decide) rfl (fun ls hl => ?_)
                    refine lv_goto (tgt := 59) hx hb dX8_man_151 (by decide) ?_
                    have hl := lv_sub (l' := [(0, .ref (Z.1 30 0)), (1, .int a1), (2, .int x2_59), (3, .int x3_59), (4, .int x4_59), (5, .int x8_59), (6, .int x6_59), (7, .int x7_59), (8, .int (x8_59 + 1))]) hl [6, 7, 8, 9, 3, 2, 1, 10, 0] rfl
                    exact ih59 x2_59 x3_59 x4_59 x8_59 x6_59 x7_59 (x8_59 + 1) _ _ _ hF hw hl
                  · skip
                    have hF := hF.trans (if_neg c19)
                    refine lv_iload hx hb dX8_man_139 (lv_at hl 2 rfl) ?_
                    refine lv_goto (tgt := 146) hx hb dX8_man_141 (by decide) ?_
                    refine lv_istore (lv' := [(6, .int r6), (5, .int x8_59), (4, .int x4_59), (10, .int r6), (9, .int r6), (0, .ref (Z.1 30 0)), (1, .int a1), (2, .int x2_59), (3, .int x3_59), (7, .int x7_59), (8, .int x8_59)]) hx hb dX8_man_146 hl (by decide) rfl (fun ls hl => ?_)
                    refine lv_iinc (v := x8_59 + 1) (lv' := [(8, .int (x8_59 + 1)), (6, .int r6), (5, .int x8_59), (4, .int x4_59), (10, .int r6), (9, .int r6), (0, .ref (Z.1 30 0)), (1, .int a1), (2, .int x2_59), (3, .int x3_59), (7, .int x7_59)]) hx hb dX8_man_148 hl (k := 10) rfl rfl (by decide) rfl (fun ls hl => ?_)
                    refine lv_goto (tgt := 59) hx hb dX8_man_151 (by decide) ?_
                    have hl := lv_sub (l' := [(0, .ref (Z.1 30 0)), (1, .int a1), (2, .int x2_59), (3, .int x3_59), (4, .int x4_59), (5, .int x8_59), (6, .int r6), (7, .int x7_59), (8, .int (x8_59 + 1))]) hl [6, 7, 8, 9, 3, 2, 1, 10, 0] rfl
                    exact ih59 x2_59 x3_59 x4_59 x8_59 r6 x7_59 (x8_59 + 1) _ _ _ hF hw hl
              · skip
                have hF := hF.trans (if_neg c16)
                refine lv_iload hx hb dX8_man_107 (lv_at hl 9 rfl) ?_
                refine lv_goto (tgt := 114) hx hb dX8_man_109 (by decide) ?_
                refine lv_istore (lv' := [(4, .int x7_59), (10, .int r6), (9, .int r6), (0, .ref (Z.1 30 0)), (1, .int a1), (2, .int x2_59), (3, .int x3_59), (5, .int x5_59), (6, .int x6_59), (7, .int x7_59), (8, .int x8_59)]) hx hb dX8_man_114 hl (by decide) rfl (fun ls hl => ?_)
                refine lv_iload hx hb dX8_man_116 (lv_at hl 1 rfl) ?_
                refine lv_iload hx hb dX8_man_118 (lv_at hl 8 rfl) ?_
                refine lv_icmp_ge (tgt := 128) hx hb dX8_man_120 (by decide) (fun c20 => ?_) (fun c20 => ?_)
                · skip
                  have hF := hF.trans (if_pos c20)
                  refine lv_iload hx hb dX8_man_128 (lv_at hl 7 rfl) ?_
                  refine lv_istore (lv' := [(5, .int x5_59), (4, .int x7_59), (10, .int r6), (9, .int r6), (0, .ref (Z.1 30 0)), (1, .int a1), (2, .int x2_59), (3, .int x3_59), (6, .int x6_59), (7, .int x7_59), (8, .int x8_59)]) hx hb dX8_man_130 hl (by decide) rfl (fun ls hl => ?_)
                  refine lv_iload hx hb dX8_man_132 (lv_at hl 2 rfl) ?_
                  refine lv_iload hx hb dX8_man_134 (lv_at hl 8 rfl) ?_
                  refine lv_icmp_ge (tgt := 144) hx hb dX8_man_136 (by decide) (fun c21 => ?_) (fun c21 => ?_)
                  · skip
                    have hF := hF.trans (if_pos c21)
                    refine lv_iload hx hb dX8_man_144 (lv_at hl 8 rfl) ?_
                    refine lv_istore (lv' := [(6, .int x6_59), (5, .int x5_59), (4, .int x7_59), (10, .int r6), (9, .int r6), (0, .ref (Z.1 30 0)), (1, .int a1), (2, .int x2_59), (3, .int x3_59), (7, .int x7_59), (8, .int x8_59)]) hx hb dX8_man_146 hl (by decide) rfl (fun ls hl => ?_)
                    refine lv_iinc (v := x8_59 + 1) (lv' := [(8, .int (x8_59 + 1)), (6, .int x6_59), (5, .int x5_59), (4, .int x7_59), (10, .int r6), (9, .int r6), (0, .ref (Z.1 30 0)), (1, .int a1), (2, .int x2_59), (3, .int x3_59), (7, .int x7_59)]) hx hb dX8_man_148 hl (k := 10) rfl rfl (by decide) rfl (fun ls hl => ?_)
                    refine lv_goto (tgt := 59) hx hb dX8_man_151 (by decide) ?_
                    have hl := lv_sub (l' := [(0, .ref (Z.1 30 0)), (1, .int a1), (2, .int x2_59), (3, .int x3_59), (4, .int x7_59), (5, .int x5_59), (6, .int x6_59), (7, .int x7_59), (8, .int (x8_59 + 1))]) hl [6, 7, 8, 9, 3, 2, 1, 10, 0] rfl
                    exact ih59 x2_59 x3_59 x7_59 x5_59 x6_59 x7_59 (x8_59 + 1) _ _ _ hF hw hl
                  · skip
                    have hF := hF.trans (if_neg c21)
                    refine lv_iload hx hb dX8_man_139 (lv_at hl 2 rfl) ?_
                    refine lv_goto (tgt := 146) hx hb dX8_man_141 (by decide) ?_
                    refine lv_istore (lv' := [(6, .int r6), (5, .int x5_59), (4, .int x7_59), (10, .int r6), (9, .int r6), (0, .ref (Z.1 30 0)), (1, .int a1), (2, .int x2_59), (3, .int x3_59), (7, .int x7_59), (8, .int x8_59)]) hx hb dX8_man_146 hl (by decide) rfl (fun ls hl => ?_)
                    refine lv_iinc (v := x8_59 + 1) (lv' := [(8, .int (x8_59 + 1)), (6, .int r6), (5, .int x5_59), (4, .int x7_59), (10, .int r6), (9, .int r6), (0, .ref (Z.1 30 0)), (1, .int a1), (2, .int x2_59), (3, .int x3_59), (7, .int x7_59)]) hx hb dX8_man_148 hl (k := 10) rfl rfl (by decide) rfl (fun ls hl => ?_)
                    refine lv_goto (tgt := 59) hx hb dX8_man_151 (by decide) ?_
                    have hl := lv_sub (l' := [(0, .ref (Z.1 30 0)), (1, .int a1), (2, .int x2_59), (3, .int x3_59), (4, .int x7_59), (5, .int x5_59), (6, .int r6), (7, .int x7_59), (8, .int (x8_59 + 1))]) hl [6, 7, 8, 9, 3, 2, 1, 10, 0] rfl
                    exact ih59 x2_59 x3_59 x7_59 x5_59 r6 x7_59 (x8_59 + 1) _ _ _ hF hw hl
                · skip
                  have hF := hF.trans (if_neg c20)
                  refine lv_iload hx hb dX8_man_123 (lv_at hl 10 rfl) ?_
                  refine lv_goto (tgt := 130) hx hb dX8_man_125 (by decide) ?_
                  refine lv_istore (lv' := [(5, .int x8_59), (4, .int x7_59), (10, .int r6), (9, .int r6), (0, .ref (Z.1 30 0)), (1, .int a1), (2, .int x2_59), (3, .int x3_59), (6, .int x6_59), (7, .int x7_59), (8, .int x8_59)]) hx hb dX8_man_130 hl (by decide) rfl (fun ls hl => ?_)
                  refine lv_iload hx hb dX8_man_132 (lv_at hl 2 rfl) ?_
                  refine lv_iload hx hb dX8_man_134 (lv_at hl 8 rfl) ?_
                  refine lv_icmp_ge (tgt := 144) hx hb dX8_man_136 (by decide) (fun c22 => ?_) (fun c22 => ?_)
                  · skip
                    have hF := hF.trans (if_pos c22)
                    refine lv_iload hx hb dX8_man_144 (lv_at hl 8 rfl) ?_
                    refine lv_istore (lv' := [(6, .int x6_59), (5, .int x8_59), (4, .int x7_59), (10, .int r6), (9, .int r6), (0, .ref (Z.1 30 0)), (1, .int a1), (2, .int x2_59), (3, .int x3_59), (7, .int x7_59), (8, .int x8_59)]) hx hb dX8_man_146 hl (by decide) rfl (fun ls hl => ?_)
                    refine lv_iinc (v := x8_59 + 1) (lv' := [(8, .int (x8_59 + 1)), (6, .int x6_59), (5, .int x8_59), (4, .int x7_59), (10, .int r6), (9, .int r6), (0, .ref (Z.1 30 0)), (1, .int a1), (2, .int x2_59), (3, .int x3_59), (7, .int x7_59)]) hx hb dX8_man_148 hl (k := 10) rfl rfl (by decide) rfl (fun ls hl => ?_)
                    refine lv_goto (tgt := 59) hx hb dX8_man_151 (by decide) ?_
                    have hl := lv_sub (l' := [(0, .ref (Z.1 30 0)), (1, .int a1), (2, .int x2_59), (3, .int x3_59), (4, .int x7_59), (5, .int x8_59), (6, .int x6_59), (7, .int x7_59), (8, .int (x8_59 + 1))]) hl [6, 7, 8, 9, 3, 2, 1, 10, 0] rfl
                    exact ih59 x2_59 x3_59 x7_59 x8_59 x6_59 x7_59 (x8_59 + 1) _ _ _ hF hw hl
                  · skip
                    have hF := hF.trans (if_neg c22)
                    refine lv_iload hx hb dX8_man_139 (lv_at hl 2 rfl) ?_
                    refine lv_goto (tgt := 146) hx hb dX8_man_141 (by decide) ?_
                    refine lv_istore (lv' := [(6, .int r6), (5, .int x8_59), (4, .int x7_59), (10, .int r6), (9, .int r6), (0, .ref (Z.1 30 0)), (1, .int a1), (2, .int x2_59), (3, .int x3_59), (7, .int x7_59), (8, .int x8_59)]) hx hb dX8_man_146 hl (by decide) rfl (fun ls hl => ?_)
                    refine lv_iinc (v := x8_59 + 1) (lv' := [(8, .int (x8_59 + 1)), (6, .int r6), (5, .int x8_59), (4, .int x7_59), (10, .int r6), (9, .int r6), (0, .ref (Z.1 30 0)), (1, .int a1), (2, .int x2_59), (3, .int x3_59), (7, .int x7_59)]) hx hb dX8_man_148 hl (k := 10) rfl rfl (by decide) rfl (fun ls hl => ?_)
                    refine lv_goto (tgt := 59) hx hb dX8_man_151 (by decide) ?_
                    have hl := lv_sub (l' := [(0, .ref (Z.1 30 0)), (1, .int a1), (2, .int x2_59), (3, .int x3_59), (4, .int x7_59), (5, .int x8_59), (6, .int r6), (7, .int x7_59), (8, .int (x8_59 + 1))]) hl [6, 7, 8, 9, 3, 2, 1, 10, 0] rfl
                    exact ih59 x2_59 x3_59 x7_59 x8_59 r6 x7_59 (x8_59 + 1) _ _ _ hF hw hl
      refine lv_iload hx hb dX8_man_45 (lv_at hl 7 rfl) ?_
      refine lv_aload_n hx hb dX8_man_47 rfl (lv_at hl 0 rfl) ?_
      refine km_get (ci := 8) (C := RX8) (T := TX8) (N := 23) (t := 30) (i := 0) hx hb hts fi_X8_man_X8 hown hK hw (by decide) (by decide) rfl rfl 13 (by decide) (hts (.fieldLink RX8 25 "WrongWordModel" "now" "[I") ow_X8_man_25) rfl dX8_man_48 ?_
      refine lv_iconst (v := 3) hx hb dX8_man_51 (by decide) ?_
      refine km_iald (t := 36) (i := 0) hx hb hK hw (by decide) (by decide) rfl (by unfold vp_in; decide) dX8_man_52 ?_
      refine lv_icmp_ge (tgt := 160) hx hb dX8_man_53 (by decide) (fun c23 => ?_) (fun c23 => ?_)
      · skip
        have hF := hF.trans (if_pos c23)
        refine lv_iload_n hx hb dX8_man_160 rfl (lv_at hl 1 rfl) ?_
        refine lv_if_ne (tgt := 169) hx hb dX8_man_161 (by decide) (fun c24 => ?_) (fun c24 => ?_)
        · skip
          have hF := hF.trans (if_neg c24)
          refine lv_iload_n hx hb dX8_man_169 rfl (lv_at hl 1 rfl) ?_
          refine lv_iconst (v := 1) hx hb dX8_man_170 (by decide) ?_
          refine lv_icmp_ne (tgt := 179) hx hb dX8_man_171 (by decide) (fun c25 => ?_) (fun c25 => ?_)
          · skip
            have hF := hF.trans (if_neg c25)
            refine lv_iload hx hb dX8_man_179 (lv_at hl 6 rfl) ?_
            exact hret _ _ _ _ _ _ hw dX8_man_181 ⟨hF, rfl⟩
          · skip
            have hF := hF.trans (if_pos c25)
            refine lv_iload hx hb dX8_man_174 (lv_at hl 5 rfl) ?_
            refine lv_goto (tgt := 181) hx hb dX8_man_176 (by decide) ?_
            exact hret _ _ _ _ _ _ hw dX8_man_181 ⟨hF, rfl⟩
        · skip
          have hF := hF.trans (if_pos c24)
          refine lv_iload hx hb dX8_man_164 (lv_at hl 4 rfl) ?_
          refine lv_goto (tgt := 181) hx hb dX8_man_166 (by decide) ?_
          exact hret _ _ _ _ _ _ hw dX8_man_181 ⟨hF, rfl⟩
      · skip
        have hF := hF.trans (if_neg c23)
        refine lv_iconst (v := 0) hx hb dX8_man_56 (by decide) ?_
        refine lv_istore (lv' := [(8, .int 0), (0, .ref (Z.1 30 0)), (1, .int a1), (2, .int x2_45), (3, .int x3_45), (4, .int x4_45), (5, .int x5_45), (6, .int x6_45), (7, .int x7_45)]) hx hb dX8_man_57 hl (by decide) rfl (fun ls hl => ?_)
        have hl := lv_sub (l' := [(0, .ref (Z.1 30 0)), (1, .int a1), (2, .int x2_45), (3, .int x3_45), (4, .int x4_45), (5, .int x5_45), (6, .int x6_45), (7, .int x7_45), (8, .int 0)]) hl [1, 2, 3, 4, 5, 6, 7, 8, 0] rfl
        exact loop59 2000 x2_45 x3_45 x4_45 x5_45 x6_45 x7_45 0 _ _ _ hF hw hl
  refine lv_aload_n hx hb dX8_man_0 rfl (lv_at hl 0 rfl) ?_
  have hs26 : g_X8_isGate v ≠ none := fun q => hs (hF.trans (kb_n q _))
  refine km_cI (As := []) (rest := []) (n := 0) (q := (RX8, TX8, 23)) (ci := 8) (t := 30) (i := 0) ⟨hx, hb, hml, hown, hts⟩ (d_X8_isGate l E Z v  hs26) gX8_man_X8_isGate rfl hV_X8_isGate ⟨Nat.le_of_ble_eq_true rfl, Nat.le_of_ble_eq_true rfl⟩ hK hw (by decide) (by decide) rfl rfl rfl hl.1 rfl (Nat.le_of_ble_eq_true rfl) dX8_man_1 rfl rfl (fun r27 v28 H locs hp hw => ?_)
  obtain ⟨hp, hzr27⟩ := hp
  obtain ⟨hp, rfl⟩ := hp
  have hF := hF.trans (kb_some hp _)
  refine lv_if_ne (tgt := 10) hx hb dX8_man_4 (by decide) (fun c29 => ?_) (fun c29 => ?_)
  · skip
    have hF := hF.trans (if_neg c29)
    refine lv_iload_n hx hb dX8_man_10 rfl (lv_at hl 1 rfl) ?_
    refine lv_iconst (v := 0) hx hb dX8_man_11 (by decide) ?_
    refine lv_iconst (v := 2) hx hb dX8_man_12 (by decide) ?_
    have hs30 : g_X8_in v a1 0 2 ≠ none := fun q => hs (hF.trans (kb_n q _))
    refine km_cS (As := [.int a1, .int 0, .int 2]) (rest := []) (n := 3) ⟨hx, hb, hml, hown, hts⟩ (d_X8_in l E Z v a1 0 2 hs30) gX8_man_X8_in rfl hV_X8_in ⟨Nat.le_of_ble_eq_true rfl, Nat.le_of_ble_eq_true rfl⟩ hK hw rfl hl.1 rfl (Nat.le_of_ble_eq_true rfl) dX8_man_13 rfl rfl (fun r31 v32 H locs hp hw => ?_)
    obtain ⟨hp, hzr31⟩ := hp
    obtain ⟨hp, rfl⟩ := hp
    have hF := hF.trans (kb_some hp _)
    refine lv_if_ne (tgt := 22) hx hb dX8_man_16 (by decide) (fun c33 => ?_) (fun c33 => ?_)
    · skip
      have hF := hF.trans (if_neg c33)
      refine lv_aload_n hx hb dX8_man_22 rfl (lv_at hl 0 rfl) ?_
      have hs34 : g_X8_agreeing v ≠ none := fun q => hs (hF.trans (kb_n q _))
      refine km_cI (As := []) (rest := []) (n := 0) (q := (RX8, TX8, 23)) (ci := 8) (t := 30) (i := 0) ⟨hx, hb, hml, hown, hts⟩ (d_X8_agreeing l E Z v  hs34) gX8_man_X8_agreeing rfl hV_X8_agreeing ⟨Nat.le_of_ble_eq_true rfl, Nat.le_of_ble_eq_true rfl⟩ hK hw (by decide) (by decide) rfl rfl rfl hl.1 rfl (Nat.le_of_ble_eq_true rfl) dX8_man_23 rfl rfl (fun r35 v36 H locs hp hw => ?_)
      obtain ⟨hp, rfl⟩ := hp
      have hF := hF.trans (kb_some hp _)
      refine lv_istore_n (lv' := [(2, .int r35), (0, .ref (Z.1 30 0)), (1, .int a1)]) hx hb dX8_man_26 rfl hl (by decide) rfl (fun ls hl => ?_)
      refine lv_iload_n hx hb dX8_man_27 rfl (lv_at hl 0 rfl) ?_
      have hs37 : g_X8_ones v r35 ≠ none := fun q => hs (hF.trans (kb_n q _))
      refine km_cS (As := [.int r35]) (rest := []) (n := 1) ⟨hx, hb, hml, hown, hts⟩ (d_X8_ones l E Z v r35 hs37) gX8_man_X8_ones rfl hV_X8_ones ⟨Nat.le_of_ble_eq_true rfl, Nat.le_of_ble_eq_true rfl⟩ hK hw rfl hl.1 rfl (Nat.le_of_ble_eq_true rfl) dX8_man_28 rfl rfl (fun r38 v39 H locs hp hw => ?_)
      obtain ⟨hp, rfl⟩ := hp
      have hF := hF.trans (kb_some hp _)
      refine lv_istore_n (lv' := [(3, .int r38), (2, .int r35), (0, .ref (Z.1 30 0)), (1, .int a1)]) hx hb dX8_man_31 rfl hl (by decide) rfl (fun ls hl => ?_)
      refine lv_iconst (v := 0) hx hb dX8_man_32 (by decide) ?_
      refine lv_istore (lv' := [(4, .int 0), (3, .int r38), (2, .int r35), (0, .ref (Z.1 30 0)), (1, .int a1)]) hx hb dX8_man_33 hl (by decide) rfl (fun ls hl => ?_)
      refine lv_iconst (v := 0) hx hb dX8_man_35 (by decide) ?_
      refine lv_istore (lv' := [(5, .int 0), (4, .int 0), (3, .int r38), (2, .int r35), (0, .ref (Z.1 30 0)), (1, .int a1)]) hx hb dX8_man_36 hl (by decide) rfl (fun ls hl => ?_)
      refine lv_bipush (v := 9) hx hb dX8_man_38 (by decide) ?_
      refine lv_istore (lv' := [(6, .int 9), (5, .int 0), (4, .int 0), (3, .int r38), (2, .int r35), (0, .ref (Z.1 30 0)), (1, .int a1)]) hx hb dX8_man_40 hl (by decide) rfl (fun ls hl => ?_)
      refine lv_iconst (v := 0) hx hb dX8_man_42 (by decide) ?_
      refine lv_istore (lv' := [(7, .int 0), (6, .int 9), (5, .int 0), (4, .int 0), (3, .int r38), (2, .int r35), (0, .ref (Z.1 30 0)), (1, .int a1)]) hx hb dX8_man_43 hl (by decide) rfl (fun ls hl => ?_)
      have hl := lv_sub (l' := [(0, .ref (Z.1 30 0)), (1, .int a1), (2, .int r35), (3, .int r38), (4, .int 0), (5, .int 0), (6, .int 9), (7, .int 0)]) hl [6, 7, 5, 4, 3, 2, 1, 0] rfl
      exact loop45 2000 r35 r38 0 0 9 0 _ _ _ hF hw hl
    · skip
      have hF := hF.trans (if_pos c33)
      refine lv_ldc (v := (-1000001)) hx hb hown (hts (.constant RX8 64 (-1000001)) ow_X8_man_64) dX8_man_19 ?_
      exact hret _ _ _ _ _ _ hw dX8_man_21 ⟨hF, rfl⟩
  · skip
    have hF := hF.trans (if_pos c29)
    refine lv_ldc (v := (-1000002)) hx hb hown (hts (.constant RX8 183 (-1000002)) ow_X8_man_183) dX8_man_7 ?_
    exact hret _ _ _ _ _ _ hw dX8_man_9 ⟨hF, rfl⟩
abbrev rmX8_menFor : Room := { frames := 4, cells := 0, slots := 0, locals := 99 }
def b_X8_menFor_L28 (rec15 : Int32 → Int32 → Option (Int32)) (rec28 : Int32 → Int32 → Int32 → Option (Int32)) (v : Mm) (a1 : Int32) (x2_28 : Int32) (x3_28 : Int32) (x4_28 : Int32) : Option (Int32) := if 6 ≤ x4_28 then (rec15 x2_28 (x3_28 + 1)) else (Option.bind (g_X8_takenOf v a1 x3_28 x4_28) (fun r8 => if r8 = 0 then (rec28 x2_28 x3_28 (x4_28 + 1)) else (if a1 &&& (r8 ^^^ ((-1))) = 0 then (rec28 x2_28 x3_28 (x4_28 + 1)) else (if r8 < 0 ∨ 64 ≤ Int32.toNatClampNeg r8 then none else (if v 42 0 (Int32.toNatClampNeg r8) = (-1000000) then (rec28 x2_28 x3_28 (x4_28 + 1)) else (if a1 &&& (r8 ^^^ ((-1))) < 0 ∨ 64 ≤ Int32.toNatClampNeg (a1 &&& (r8 ^^^ ((-1)))) then none else (if v 42 0 (Int32.toNatClampNeg (a1 &&& (r8 ^^^ ((-1))))) = (-1000000) then (rec28 x2_28 x3_28 (x4_28 + 1)) else (if r8 < 0 ∨ 64 ≤ Int32.toNatClampNeg r8 then none else (if a1 &&& (r8 ^^^ ((-1))) < 0 ∨ 64 ≤ Int32.toNatClampNeg (a1 &&& (r8 ^^^ ((-1)))) then none else (if v 42 0 (Int32.toNatClampNeg r8) ≤ v 42 0 (Int32.toNatClampNeg (a1 &&& (r8 ^^^ ((-1))))) then (if a1 &&& (r8 ^^^ ((-1))) < 0 ∨ 64 ≤ Int32.toNatClampNeg (a1 &&& (r8 ^^^ ((-1)))) then none else (Option.bind (some ((1 : Int32) + (v 42 0 (Int32.toNatClampNeg (a1 &&& (r8 ^^^ ((-1)))))))) (fun x20 => if x2_28 = (-1000000) then (rec28 x20 x3_28 (x4_28 + 1)) else (if x2_28 ≤ x20 then (rec28 x2_28 x3_28 (x4_28 + 1)) else (rec28 x20 x3_28 (x4_28 + 1)))))) else (if r8 < 0 ∨ 64 ≤ Int32.toNatClampNeg r8 then none else (Option.bind (some ((1 : Int32) + (v 42 0 (Int32.toNatClampNeg r8)))) (fun x24 => if x2_28 = (-1000000) then (rec28 x24 x3_28 (x4_28 + 1)) else (if x2_28 ≤ x24 then (rec28 x2_28 x3_28 (x4_28 + 1)) else (rec28 x24 x3_28 (x4_28 + 1))))))))))))))))
def g_X8_menFor_L28 (rec15 : Int32 → Int32 → Option (Int32)) (v : Mm) (a1 : Int32) : Nat → Int32 → Int32 → Int32 → Option (Int32)
  | 0 => fun _ _ _ => none
  | n + 1 => b_X8_menFor_L28 rec15 (g_X8_menFor_L28 rec15 v a1 n) v a1
def b_X8_menFor_L15  (rec15 : Int32 → Int32 → Option (Int32)) (v : Mm) (a1 : Int32) (x2_15 : Int32) (x3_15 : Int32) : Option (Int32) := if v 36 0 (Int32.toNatClampNeg 3) ≤ x3_15 then (some x2_15) else (g_X8_menFor_L28 rec15 v a1 2000 x2_15 x3_15 0)
def g_X8_menFor_L15  (v : Mm) (a1 : Int32) : Nat → Int32 → Int32 → Option (Int32)
  | 0 => fun _ _ => none
  | n + 1 => b_X8_menFor_L15  (g_X8_menFor_L15  v a1 n) v a1
def g_X8_menFor (v : Mm) (a1 : Int32) : Option (Int32) := Option.bind (g_X8_ones v a1) (fun r2 => if 2 ≤ r2 then (g_X8_menFor_L15  v a1 2000 ((-1000000)) 0) else (some 0))
set_option maxHeartbeats 4000000 in
set_option maxRecDepth 100000 in
theorem d_X8_menFor (l : Launch) (E : kq_T) (Z : km_Z) (v : Mm) (a1 : Int32) (hs : g_X8_menFor v a1 ≠ none) : km_I l E Z cntM yX8_menFor wsX8_menFor rmX8_menFor [.ref (Z.1 30 0), .int a1] v (fun r v1 => g_X8_menFor v a1 = some r ∧ v = v1) := by
  refine km_goI (cc := cX8_menFor) (maxL := 8) (by decide) rfl (Nat.le_of_ble_eq_true rfl) rfl rfl rfl ?_
  intro p e s m below meth c A ls Q C hK hw hl hret
  obtain ⟨hx, hb, hml, hown, hts, -, -, -⟩ := C
  have hown : s.vm.findClass RX8 = some m.cls := hown
  have hl : lv_has ls 8 [(0, .ref (Z.1 30 0)), (1, .int a1)] := hl
  have hF := g_X8_menFor.eq_1 v a1
  have loop15 : ∀ (n15 : Nat) (x2_15 : Int32) (x3_15 : Int32) (H : Heap) (locs : List Loc) (ls : Array Slot), g_X8_menFor v a1 = g_X8_menFor_L15  v a1 n15 x2_15 x3_15 → km_w E A s.heap [] Z cntM v H locs → lv_has ls 8 [(0, .ref (Z.1 30 0)), (1, .int a1), (2, .int x2_15), (3, .int x3_15)] → W p l e rmX8_menFor s m [.ref (Z.1 30 0), .int a1].toArray below meth c H locs 0 0 Q (F0 m 15 ls []) := by
    intro n15
    induction n15 with
    | zero => intro x2_15 x3_15 H locs ls hF hw hl; exact absurd (show g_X8_menFor v a1 = none from hF) hs
    | succ n15 ih15 =>
      intro x2_15 x3_15 H locs ls hF hw hl
      have hF := hF.trans (b_X8_menFor_L15.eq_1  (g_X8_menFor_L15  v a1 n15) v a1 x2_15 x3_15)
      have loop28 : ∀ (n28 : Nat) (x2_28 : Int32) (x3_28 : Int32) (x4_28 : Int32) (H : Heap) (locs : List Loc) (ls : Array Slot), g_X8_menFor v a1 = g_X8_menFor_L28 (g_X8_menFor_L15  v a1 n15) v a1 n28 x2_28 x3_28 x4_28 → km_w E A s.heap [] Z cntM v H locs → lv_has ls 8 [(0, .ref (Z.1 30 0)), (1, .int a1), (2, .int x2_28), (3, .int x3_28), (4, .int x4_28)] → W p l e rmX8_menFor s m [.ref (Z.1 30 0), .int a1].toArray below meth c H locs 0 0 Q (F0 m 28 ls []) := by
        intro n28
        induction n28 with
        | zero => intro x2_28 x3_28 x4_28 H locs ls hF hw hl; exact absurd (show g_X8_menFor v a1 = none from hF) hs
        | succ n28 ih28 =>
          intro x2_28 x3_28 x4_28 H locs ls hF hw hl
          have hF := hF.trans (b_X8_menFor_L28.eq_1 (g_X8_menFor_L15  v a1 n15) (g_X8_menFor_L28 (g_X8_menFor_L15  v a1 n15) v a1 n28) v a1 x2_28 x3_28 x4_28)
          refine lv_iload hx hb dX8_menFor_28 (lv_at hl 4 rfl) ?_
          refine lv_bipush (v := 6) hx hb dX8_menFor_30 (by decide) ?_
          refine lv_icmp_ge (tgt := 150) hx hb dX8_menFor_32 (by decide) (fun c1 => ?_) (fun c1 => ?_)
          · skip
            have hF := hF.trans (if_pos c1)
            refine lv_iinc (v := x3_28 + 1) (lv' := [(3, .int (x3_28 + 1)), (0, .ref (Z.1 30 0)), (1, .int a1), (2, .int x2_28), (4, .int x4_28)]) hx hb dX8_menFor_150 hl (k := 3) rfl rfl (by decide) rfl (fun ls hl => ?_)
            refine lv_goto (tgt := 15) hx hb dX8_menFor_153 (by decide) ?_
            have hl := lv_sub (l' := [(0, .ref (Z.1 30 0)), (1, .int a1), (2, .int x2_28), (3, .int (x3_28 + 1))]) hl [1, 2, 3, 0] rfl
            exact ih15 x2_28 (x3_28 + 1) _ _ _ hF hw hl
          · skip
            have hF := hF.trans (if_neg c1)
            refine lv_aload_n hx hb dX8_menFor_35 rfl (lv_at hl 0 rfl) ?_
            refine lv_iload_n hx hb dX8_menFor_36 rfl (lv_at hl 1 rfl) ?_
            refine lv_iload_n hx hb dX8_menFor_37 rfl (lv_at hl 3 rfl) ?_
            refine lv_iload hx hb dX8_menFor_38 (lv_at hl 4 rfl) ?_
            have hs2 : g_X8_takenOf v a1 x3_28 x4_28 ≠ none := fun q => hs (hF.trans (kb_n q _))
            refine km_cI (As := [.int a1, .int x3_28, .int x4_28]) (rest := []) (n := 3) (q := (RX8, TX8, 23)) (ci := 8) (t := 30) (i := 0) ⟨hx, hb, hml, hown, hts⟩ (d_X8_takenOf l E Z v a1 x3_28 x4_28 hs2) gX8_menFor_X8_takenOf rfl hV_X8_takenOf ⟨Nat.le_of_ble_eq_true rfl, Nat.le_of_ble_eq_true rfl⟩ hK hw (by decide) (by decide) rfl rfl rfl hl.1 rfl (Nat.le_of_ble_eq_true rfl) dX8_menFor_40 rfl rfl (fun r3 v4 H locs hp hw => ?_)
            obtain ⟨hp, rfl⟩ := hp
            have hF := hF.trans (kb_some hp _)
            refine lv_istore (lv' := [(5, .int r3), (0, .ref (Z.1 30 0)), (1, .int a1), (2, .int x2_28), (3, .int x3_28), (4, .int x4_28)]) hx hb dX8_menFor_43 hl (by decide) rfl (fun ls hl => ?_)
            refine lv_iload_n hx hb dX8_menFor_45 rfl (lv_at hl 2 rfl) ?_
            refine lv_iload hx hb dX8_menFor_46 (lv_at hl 0 rfl) ?_
            refine lv_iconst (v := (-1)) hx hb dX8_menFor_48 (by decide) ?_
            refine lv_ixor hx hb dX8_menFor_49 ?_
            refine lv_iand hx hb dX8_menFor_50 ?_
            refine lv_istore (lv' := [(6, .int (a1 &&& (r3 ^^^ ((-1))))), (5, .int r3), (0, .ref (Z.1 30 0)), (1, .int a1), (2, .int x2_28), (3, .int x3_28), (4, .int x4_28)]) hx hb dX8_menFor_51 hl (by decide) rfl (fun ls hl => ?_)
            refine lv_iload hx hb dX8_menFor_53 (lv_at hl 1 rfl) ?_
            refine lv_if_eq (tgt := 144) hx hb dX8_menFor_55 (by decide) (fun c5 => ?_) (fun c5 => ?_)
            · skip
              have hF := hF.trans (if_pos c5)
              refine lv_iinc (v := x4_28 + 1) (lv' := [(4, .int (x4_28 + 1)), (6, .int (a1 &&& (r3 ^^^ ((-1))))), (5, .int r3), (0, .ref (Z.1 30 0)), (1, .int a1), (2, .int x2_28), (3, .int x3_28)]) hx hb dX8_menFor_144 hl (k := 6) rfl rfl (by decide) rfl (fun ls hl => ?_)
              refine lv_goto (tgt := 28) hx hb dX8_menFor_147 (by decide) ?_
              have hl := lv_sub (l' := [(0, .ref (Z.1 30 0)), (1, .int a1), (2, .int x2_28), (3, .int x3_28), (4, .int (x4_28 + 1))]) hl [3, 4, 5, 6, 0] rfl
              exact ih28 x2_28 x3_28 (x4_28 + 1) _ _ _ hF hw hl
            · skip
              have hF := hF.trans (if_neg c5)
              refine lv_iload hx hb dX8_menFor_58 (lv_at hl 0 rfl) ?_
              refine lv_if_eq (tgt := 144) hx hb dX8_menFor_60 (by decide) (fun c6 => ?_) (fun c6 => ?_)
              · skip
                have hF := hF.trans (if_pos c6)
                refine lv_iinc (v := x4_28 + 1) (lv' := [(4, .int (x4_28 + 1)), (6, .int (a1 &&& (r3 ^^^ ((-1))))), (5, .int r3), (0, .ref (Z.1 30 0)), (1, .int a1), (2, .int x2_28), (3, .int x3_28)]) hx hb dX8_menFor_144 hl (k := 6) rfl rfl (by decide) rfl (fun ls hl => ?_)
                refine lv_goto (tgt := 28) hx hb dX8_menFor_147 (by decide) ?_
                have hl := lv_sub (l' := [(0, .ref (Z.1 30 0)), (1, .int a1), (2, .int x2_28), (3, .int x3_28), (4, .int (x4_28 + 1))]) hl [3, 4, 5, 6, 0] rfl
                exact ih28 x2_28 x3_28 (x4_28 + 1) _ _ _ hF hw hl
              · skip
                have hF := hF.trans (if_neg c6)
                refine lv_aload_n hx hb dX8_menFor_63 rfl (lv_at hl 2 rfl) ?_
                refine km_get (ci := 8) (C := RX8) (T := TX8) (N := 23) (t := 30) (i := 0) hx hb hts fi_X8_menFor_X8 hown hK hw (by decide) (by decide) rfl rfl 20 (by decide) (hts (.fieldLink RX8 44 "WrongWordModel" "men" "[I") ow_X8_menFor_44) rfl dX8_menFor_64 ?_
                refine lv_iload hx hb dX8_menFor_67 (lv_at hl 1 rfl) ?_
                have hb7 : ¬ (r3 < 0 ∨ 64 ≤ Int32.toNatClampNeg r3) := fun q => hs (hF.trans (if_pos q))
                have hF := hF.trans (if_neg hb7)
                refine km_iald (t := 42) (i := 0) hx hb hK hw (by decide) (by decide) rfl hb7 dX8_menFor_69 ?_
                refine lv_ldc (v := (-1000000)) hx hb hown (hts (.constant RX8 50 (-1000000)) ow_X8_menFor_50) dX8_menFor_70 ?_
                refine lv_icmp_eq (tgt := 144) hx hb dX8_menFor_72 (by decide) (fun c8 => ?_) (fun c8 => ?_)
                · skip
                  have hF := hF.trans (if_pos c8)
                  refine lv_iinc (v := x4_28 + 1) (lv' := [(4, .int (x4_28 + 1)), (6, .int (a1 &&& (r3 ^^^ ((-1))))), (5, .int r3), (0, .ref (Z.1 30 0)), (1, .int a1), (2, .int x2_28), (3, .int x3_28)]) hx hb dX8_menFor_144 hl (k := 6) rfl rfl (by decide) rfl (fun ls hl => ?_)
                  refine lv_goto (tgt := 28) hx hb dX8_menFor_147 (by decide) ?_
                  have hl := lv_sub (l' := [(0, .ref (Z.1 30 0)), (1, .int a1), (2, .int x2_28), (3, .int x3_28), (4, .int (x4_28 + 1))]) hl [3, 4, 5, 6, 0] rfl
                  exact ih28 x2_28 x3_28 (x4_28 + 1) _ _ _ hF hw hl
                · skip
                  have hF := hF.trans (if_neg c8)
                  refine lv_aload_n hx hb dX8_menFor_75 rfl (lv_at hl 2 rfl) ?_
                  refine km_get (ci := 8) (C := RX8) (T := TX8) (N := 23) (t := 30) (i := 0) hx hb hts fi_X8_menFor_X8 hown hK hw (by decide) (by decide) rfl rfl 20 (by decide) (hts (.fieldLink RX8 44 "WrongWordModel" "men" "[I") ow_X8_menFor_44) rfl dX8_menFor_76 ?_
                  refine lv_iload hx hb dX8_menFor_79 (lv_at hl 0 rfl) ?_
                  have hb9 : ¬ (a1 &&& (r3 ^^^ ((-1))) < 0 ∨ 64 ≤ Int32.toNatClampNeg (a1 &&& (r3 ^^^ ((-1))))) := fun q => hs (hF.trans (if_pos q))
                  have hF := hF.trans (if_neg hb9)
                  refine km_iald (t := 42) (i := 0) hx hb hK hw (by decide) (by decide) rfl hb9 dX8_menFor_81 ?_
                  refine lv_ldc (v := (-1000000)) hx hb hown (hts (.constant RX8 50 (-1000000)) ow_X8_menFor_50) dX8_menFor_82 ?_
                  refine lv_icmp_eq (tgt := 144) hx hb dX8_menFor_84 (by decide) (fun c10 => ?_) (fun c10 => ?_)
                  · skip
                    have hF := hF.trans (if_pos c10)
                    refine lv_iinc (v := x4_28 + 1) (lv' := [(4, .int (x4_28 + 1)), (6, .int (a1 &&& (r3 ^^^ ((-1))))), (5, .int r3), (0, .ref (Z.1 30 0)), (1, .int a1), (2, .int x2_28), (3, .int x3_28)]) hx hb dX8_menFor_144 hl (k := 6) rfl rfl (by decide) rfl (fun ls hl => ?_)
                    refine lv_goto (tgt := 28) hx hb dX8_menFor_147 (by decide) ?_
                    have hl := lv_sub (l' := [(0, .ref (Z.1 30 0)), (1, .int a1), (2, .int x2_28), (3, .int x3_28), (4, .int (x4_28 + 1))]) hl [3, 4, 5, 6, 0] rfl
                    exact ih28 x2_28 x3_28 (x4_28 + 1) _ _ _ hF hw hl
                  · skip
                    have hF := hF.trans (if_neg c10)
                    refine lv_iconst (v := 1) hx hb dX8_menFor_87 (by decide) ?_
                    refine lv_aload_n hx hb dX8_menFor_88 rfl (lv_at hl 2 rfl) ?_
                    refine km_get (ci := 8) (C := RX8) (T := TX8) (N := 23) (t := 30) (i := 0) hx hb hts fi_X8_menFor_X8 hown hK hw (by decide) (by decide) rfl rfl 20 (by decide) (hts (.fieldLink RX8 44 "WrongWordModel" "men" "[I") ow_X8_menFor_44) rfl dX8_menFor_89 ?_
                    refine lv_iload hx hb dX8_menFor_92 (lv_at hl 1 rfl) ?_
                    have hb11 : ¬ (r3 < 0 ∨ 64 ≤ Int32.toNatClampNeg r3) := fun q => hs (hF.trans (if_pos q))
                    have hF := hF.trans (if_neg hb11)
                    refine km_iald (t := 42) (i := 0) hx hb hK hw (by decide) (by decide) rfl hb11 dX8_menFor_94 ?_
                    refine lv_aload_n hx hb dX8_menFor_95 rfl (lv_at hl 2 rfl) ?_
                    refine km_get (ci := 8) (C := RX8) (T := TX8) (N := 23) (t := 30) (i := 0) hx hb hts fi_X8_menFor_X8 hown hK hw (by decide) (by decide) rfl rfl 20 (by decide) (hts (.fieldLink RX8 44 "WrongWordModel" "men" "[I") ow_X8_menFor_44) rfl dX8_menFor_96 ?_
                    refine lv_iload hx hb dX8_menFor_99 (lv_at hl 0 rfl) ?_
                    have hb12 : ¬ (a1 &&& (r3 ^^^ ((-1))) < 0 ∨ 64 ≤ Int32.toNatClampNeg (a1 &&& (r3 ^^^ ((-1))))) := fun q => hs (hF.trans (if_pos q))
                    have hF := hF.trans (if_neg hb12)
                    refine km_iald (t := 42) (i := 0) hx hb hK hw (by decide) (by decide) rfl hb12 dX8_menFor_101 ?_
                    refine lv_icmp_le (tgt := 115) hx hb dX8_menFor_102 (by decide) (fun c13 => ?_) (fun c13 => ?_)
                    · skip
                      have hF := hF.trans (if_pos c13)
                      refine lv_aload_n hx hb dX8_menFor_115 rfl (lv_at hl 2 rfl) ?_
                      refine km_get (ci := 8) (C := RX8) (T := TX8) (N := 23) (t := 30) (i := 0) hx hb hts fi_X8_menFor_X8 hown hK hw (by decide) (by decide) rfl rfl 20 (by decide) (hts (.fieldLink RX8 44 "WrongWordModel" "men" "[I") ow_X8_menFor_44) rfl dX8_menFor_116 ?_
                      refine lv_iload hx hb dX8_menFor_119 (lv_at hl 0 rfl) ?_
                      have hb14 : ¬ (a1 &&& (r3 ^^^ ((-1))) < 0 ∨ 64 ≤ Int32.toNatClampNeg (a1 &&& (r3 ^^^ ((-1))))) := fun q => hs (hF.trans (if_pos q))
                      have hF := hF.trans (if_neg hb14)
                      refine km_iald (t := 42) (i := 0) hx hb hK hw (by decide) (by decide) rfl hb14 dX8_menFor_121 ?_
                      refine lv_iadd hx hb dX8_menFor_122 ?_
                      refine lv_topi (fun x15 ex15 => ?_)
                      have hF := hF.trans (kb_some (congrArg some ex15.symm) _)
                      refine lv_istore (lv' := [(7, .int x15), (6, .int (a1 &&& (r3 ^^^ ((-1))))), (5, .int r3), (0, .ref (Z.1 30 0)), (1, .int a1), (2, .int x2_28), (3, .int x3_28), (4, .int x4_28)]) hx hb dX8_menFor_123 hl (by decide) rfl (fun ls hl => ?_)
                      refine lv_iload_n hx hb dX8_menFor_125 rfl (lv_at hl 5 rfl) ?_
                      refine lv_ldc (v := (-1000000)) hx hb hown (hts (.constant RX8 50 (-1000000)) ow_X8_menFor_50) dX8_menFor_126 ?_
                      refine lv_icmp_eq (tgt := 137) hx hb dX8_menFor_128 (by decide) (fun c16 => ?_) (fun c16 => ?_)
                      · skip
                        have hF := hF.trans (if_pos c16)
                        refine lv_iload hx hb dX8_menFor_137 (lv_at hl 0 rfl) ?_
                        refine lv_goto (tgt := 143) hx hb dX8_menFor_139 (by decide) ?_
                        refine lv_istore_n (lv' := [(2, .int x15), (7, .int x15), (6, .int (a1 &&& (r3 ^^^ ((-1))))), (5, .int r3), (0, .ref (Z.1 30 0)), (1, .int a1), (3, .int x3_28), (4, .int x4_28)]) hx hb dX8_menFor_143 rfl hl (by decide) rfl (fun ls hl => ?_)
                        refine lv_iinc (v := x4_28 + 1) (lv' := [(4, .int (x4_28 + 1)), (2, .int x15), (7, .int x15), (6, .int (a1 &&& (r3 ^^^ ((-1))))), (5, .int r3), (0, .ref (Z.1 30 0)), (1, .int a1), (3, .int x3_28)]) hx hb dX8_menFor_144 hl (k := 7) rfl rfl (by decide) rfl (fun ls hl => ?_)
                        refine lv_goto (tgt := 28) hx hb dX8_menFor_147 (by decide) ?_
                        have hl := lv_sub (l' := [(0, .ref (Z.1 30 0)), (1, .int a1), (2, .int x15), (3, .int x3_28), (4, .int (x4_28 + 1))]) hl [5, 6, 1, 7, 0] rfl
                        exact ih28 x15 x3_28 (x4_28 + 1) _ _ _ hF hw hl
                      · skip
                        have hF := hF.trans (if_neg c16)
                        refine lv_iload hx hb dX8_menFor_131 (lv_at hl 0 rfl) ?_
                        refine lv_iload_n hx hb dX8_menFor_133 rfl (lv_at hl 5 rfl) ?_
                        refine lv_icmp_ge (tgt := 142) hx hb dX8_menFor_134 (by decide) (fun c17 => ?_) (fun c17 => ?_)
                        · skip
                          have hF := hF.trans (if_pos c17)
                          refine lv_iload_n hx hb dX8_menFor_142 rfl (lv_at hl 5 rfl) ?_
                          refine lv_istore_n (lv' := [(2, .int x2_28), (7, .int x15), (6, .int (a1 &&& (r3 ^^^ ((-1))))), (5, .int r3), (0, .ref (Z.1 30 0)), (1, .int a1), (3, .int x3_28), (4, .int x4_28)]) hx hb dX8_menFor_143 rfl hl (by decide) rfl (fun ls hl => ?_)
                          refine lv_iinc (v := x4_28 + 1) (lv' := [(4, .int (x4_28 + 1)), (2, .int x2_28), (7, .int x15), (6, .int (a1 &&& (r3 ^^^ ((-1))))), (5, .int r3), (0, .ref (Z.1 30 0)), (1, .int a1), (3, .int x3_28)]) hx hb dX8_menFor_144 hl (k := 7) rfl rfl (by decide) rfl (fun ls hl => ?_)
                          refine lv_goto (tgt := 28) hx hb dX8_menFor_147 (by decide) ?_
                          have hl := lv_sub (l' := [(0, .ref (Z.1 30 0)), (1, .int a1), (2, .int x2_28), (3, .int x3_28), (4, .int (x4_28 + 1))]) hl [5, 6, 1, 7, 0] rfl
                          exact ih28 x2_28 x3_28 (x4_28 + 1) _ _ _ hF hw hl
                        · skip
                          have hF := hF.trans (if_neg c17)
                          refine lv_iload hx hb dX8_menFor_137 (lv_at hl 0 rfl) ?_
                          refine lv_goto (tgt := 143) hx hb dX8_menFor_139 (by decide) ?_
                          refine lv_istore_n (lv' := [(2, .int x15), (7, .int x15), (6, .int (a1 &&& (r3 ^^^ ((-1))))), (5, .int r3), (0, .ref (Z.1 30 0)), (1, .int a1), (3, .int x3_28), (4, .int x4_28)]) hx hb dX8_menFor_143 rfl hl (by decide) rfl (fun ls hl => ?_)
                          refine lv_iinc (v := x4_28 + 1) (lv' := [(4, .int (x4_28 + 1)), (2, .int x15), (7, .int x15), (6, .int (a1 &&& (r3 ^^^ ((-1))))), (5, .int r3), (0, .ref (Z.1 30 0)), (1, .int a1), (3, .int x3_28)]) hx hb dX8_menFor_144 hl (k := 7) rfl rfl (by decide) rfl (fun ls hl => ?_)
                          refine lv_goto (tgt := 28) hx hb dX8_menFor_147 (by decide) ?_
                          have hl := lv_sub (l' := [(0, .ref (Z.1 30 0)), (1, .int a1), (2, .int x15), (3, .int x3_28), (4, .int (x4_28 + 1))]) hl [5, 6, 1, 7, 0] rfl
                          exact ih28 x15 x3_28 (x4_28 + 1) _ _ _ hF hw hl
                    · skip
                      have hF := hF.trans (if_neg c13)
                      refine lv_aload_n hx hb dX8_menFor_105 rfl (lv_at hl 2 rfl) ?_
                      refine km_get (ci := 8) (C := RX8) (T := TX8) (N := 23) (t := 30) (i := 0) hx hb hts fi_X8_menFor_X8 hown hK hw (by decide) (by decide) rfl rfl 20 (by decide) (hts (.fieldLink RX8 44 "WrongWordModel" "men" "[I") ow_X8_menFor_44) rfl dX8_menFor_106 ?_
                      refine lv_iload hx hb dX8_menFor_109 (lv_at hl 1 rfl) ?_
                      have hb18 : ¬ (r3 < 0 ∨ 64 ≤ Int32.toNatClampNeg r3) := fun q => hs (hF.trans (if_pos q))
                      have hF := hF.trans (if_neg hb18)
                      refine km_iald (t := 42) (i := 0) hx hb hK hw (by decide) (by decide) rfl hb18 dX8_menFor_111 ?_
                      refine lv_goto (tgt := 122) hx hb dX8_menFor_112 (by decide) ?_
                      refine lv_iadd hx hb dX8_menFor_122 ?_
                      refine lv_topi (fun x19 ex19 => ?_)
                      have hF := hF.trans (kb_some (congrArg some ex19.symm) _)
                      refine lv_istore (lv' := [(7, .int x19), (6, .int (a1 &&& (r3 ^^^ ((-1))))), (5, .int r3), (0, .ref (Z.1 30 0)), (1, .int a1), (2, .int x2_28), (3, .int x3_28), (4, .int x4_28)]) hx hb dX8_menFor_123 hl (by decide) rfl (fun ls hl => ?_)
                      refine lv_iload_n hx hb dX8_menFor_125 rfl (lv_at hl 5 rfl) ?_
                      refine lv_ldc (v := (-1000000)) hx hb hown (hts (.constant RX8 50 (-1000000)) ow_X8_menFor_50) dX8_menFor_126 ?_
                      refine lv_icmp_eq (tgt := 137) hx hb dX8_menFor_128 (by decide) (fun c20 => ?_) (fun c20 => ?_)
                      · skip
                        have hF := hF.trans (if_pos c20)
                        refine lv_iload hx hb dX8_menFor_137 (lv_at hl 0 rfl) ?_
                        refine lv_goto (tgt := 143) hx hb dX8_menFor_139 (by decide) ?_
                        refine lv_istore_n (lv' := [(2, .int x19), (7, .int x19), (6, .int (a1 &&& (r3 ^^^ ((-1))))), (5, .int r3), (0, .ref (Z.1 30 0)), (1, .int a1), (3, .int x3_28), (4, .int x4_28)]) hx hb dX8_menFor_143 rfl hl (by decide) rfl (fun ls hl => ?_)
                        refine lv_iinc (v := x4_28 + 1) (lv' := [(4, .int (x4_28 + 1)), (2, .int x19), (7, .int x19), (6, .int (a1 &&& (r3 ^^^ ((-1))))), (5, .int r3), (0, .ref (Z.1 30 0)), (1, .int a1), (3, .int x3_28)]) hx hb dX8_menFor_144 hl (k := 7) rfl rfl (by decide) rfl (fun ls hl => ?_)
                        refine lv_goto (tgt := 28) hx hb dX8_menFor_147 (by decide) ?_
                        have hl := lv_sub (l' := [(0, .ref (Z.1 30 0)), (1, .int a1), (2, .int x19), (3, .int x3_28), (4, .int (x4_28 + 1))]) hl [5, 6, 1, 7, 0] rfl
                        exact ih28 x19 x3_28 (x4_28 + 1) _ _ _ hF hw hl
                      · skip
                        have hF := hF.trans (if_neg c20)
                        refine lv_iload hx hb dX8_menFor_131 (lv_at hl 0 rfl) ?_
                        refine lv_iload_n hx hb dX8_menFor_133 rfl (lv_at hl 5 rfl) ?_
                        refine lv_icmp_ge (tgt := 142) hx hb dX8_menFor_134 (by decide) (fun c21 => ?_) (fun c21 => ?_)
                        · skip
                          have hF := hF.trans (if_pos c21)
                          refine lv_iload_n hx hb dX8_menFor_142 rfl (lv_at hl 5 rfl) ?_
                          refine lv_istore_n (lv' := [(2, .int x2_28), (7, .int x19), (6, .int (a1 &&& (r3 ^^^ ((-1))))), (5, .int r3), (0, .ref (Z.1 30 0)), (1, .int a1), (3, .int x3_28), (4, .int x4_28)]) hx hb dX8_menFor_143 rfl hl (by decide) rfl (fun ls hl => ?_)
                          refine lv_iinc (v := x4_28 + 1) (lv' := [(4, .int (x4_28 + 1)), (2, .int x2_28), (7, .int x19), (6, .int (a1 &&& (r3 ^^^ ((-1))))), (5, .int r3), (0, .ref (Z.1 30 0)), (1, .int a1), (3, .int x3_28)]) hx hb dX8_menFor_144 hl (k := 7) rfl rfl (by decide) rfl (fun ls hl => ?_)
                          refine lv_goto (tgt := 28) hx hb dX8_menFor_147 (by decide) ?_
                          have hl := lv_sub (l' := [(0, .ref (Z.1 30 0)), (1, .int a1), (2, .int x2_28), (3, .int x3_28), (4, .int (x4_28 + 1))]) hl [5, 6, 1, 7, 0] rfl
                          exact ih28 x2_28 x3_28 (x4_28 + 1) _ _ _ hF hw hl
                        · skip
                          have hF := hF.trans (if_neg c21)
                          refine lv_iload hx hb dX8_menFor_137 (lv_at hl 0 rfl) ?_
                          refine lv_goto (tgt := 143) hx hb dX8_menFor_139 (by decide) ?_
                          refine lv_istore_n (lv' := [(2, .int x19), (7, .int x19), (6, .int (a1 &&& (r3 ^^^ ((-1))))), (5, .int r3), (0, .ref (Z.1 30 0)), (1, .int a1), (3, .int x3_28), (4, .int x4_28)]) hx hb dX8_menFor_143 rfl hl (by decide) rfl (fun ls hl => ?_)
                          refine lv_iinc (v := x4_28 + 1) (lv' := [(4, .int (x4_28 + 1)), (2, .int x19), (7, .int x19), (6, .int (a1 &&& (r3 ^^^ ((-1))))), (5, .int r3), (0, .ref (Z.1 30 0)), (1, .int a1), (3, .int x3_28)]) hx hb dX8_menFor_144 hl (k := 7) rfl rfl (by decide) rfl (fun ls hl => ?_)
                          refine lv_goto (tgt := 28) hx hb dX8_menFor_147 (by decide) ?_
                          have hl := lv_sub (l' := [(0, .ref (Z.1 30 0)), (1, .int a1), (2, .int x19), (3, .int x3_28), (4, .int (x4_28 + 1))]) hl [5, 6, 1, 7, 0] rfl
                          exact ih28 x19 x3_28 (x4_28 + 1) _ _ _ hF hw hl
      refine lv_iload_n hx hb dX8_menFor_15 rfl (lv_at hl 3 rfl) ?_
      refine lv_aload_n hx hb dX8_menFor_16 rfl (lv_at hl 0 rfl) ?_
      refine km_get (ci := 8) (C := RX8) (T := TX8) (N := 23) (t := 30) (i := 0) hx hb hts fi_X8_menFor_X8 hown hK hw (by decide) (by decide) rfl rfl 13 (by decide) (hts (.fieldLink RX8 25 "WrongWordModel" "now" "[I") ow_X8_menFor_25) rfl dX8_menFor_17 ?_
      refine lv_iconst (v := 3) hx hb dX8_menFor_20 (by decide) ?_
      refine km_iald (t := 36) (i := 0) hx hb hK hw (by decide) (by decide) rfl (by unfold vp_in; decide) dX8_menFor_21 ?_
      refine lv_icmp_ge (tgt := 156) hx hb dX8_menFor_22 (by decide) (fun c22 => ?_) (fun c22 => ?_)
      · skip
        have hF := hF.trans (if_pos c22)
        refine lv_iload_n hx hb dX8_menFor_156 rfl (lv_at hl 2 rfl) ?_
        exact hret _ _ _ _ _ _ hw dX8_menFor_157 ⟨hF, rfl⟩
      · skip
        have hF := hF.trans (if_neg c22)
        refine lv_iconst (v := 0) hx hb dX8_menFor_25 (by decide) ?_
        refine lv_istore (lv' := [(4, .int 0), (0, .ref (Z.1 30 0)), (1, .int a1), (2, .int x2_15), (3, .int x3_15)]) hx hb dX8_menFor_26 hl (by decide) rfl (fun ls hl => ?_)
        have hl := lv_sub (l' := [(0, .ref (Z.1 30 0)), (1, .int a1), (2, .int x2_15), (3, .int x3_15), (4, .int 0)]) hl [1, 2, 3, 4, 0] rfl
        exact loop28 2000 x2_15 x3_15 0 _ _ _ hF hw hl
  refine lv_iload_n hx hb dX8_menFor_0 rfl (lv_at hl 1 rfl) ?_
  have hs23 : g_X8_ones v a1 ≠ none := fun q => hs (hF.trans (kb_n q _))
  refine km_cS (As := [.int a1]) (rest := []) (n := 1) ⟨hx, hb, hml, hown, hts⟩ (d_X8_ones l E Z v a1 hs23) gX8_menFor_X8_ones rfl hV_X8_ones ⟨Nat.le_of_ble_eq_true rfl, Nat.le_of_ble_eq_true rfl⟩ hK hw rfl hl.1 rfl (Nat.le_of_ble_eq_true rfl) dX8_menFor_1 rfl rfl (fun r24 v25 H locs hp hw => ?_)
  obtain ⟨hp, rfl⟩ := hp
  have hF := hF.trans (kb_some hp _)
  refine lv_iconst (v := 2) hx hb dX8_menFor_4 (by decide) ?_
  refine lv_icmp_ge (tgt := 10) hx hb dX8_menFor_5 (by decide) (fun c26 => ?_) (fun c26 => ?_)
  · skip
    have hF := hF.trans (if_pos c26)
    refine lv_ldc (v := (-1000000)) hx hb hown (hts (.constant RX8 50 (-1000000)) ow_X8_menFor_50) dX8_menFor_10 ?_
    refine lv_istore_n (lv' := [(2, .int ((-1000000))), (0, .ref (Z.1 30 0)), (1, .int a1)]) hx hb dX8_menFor_12 rfl hl (by decide) rfl (fun ls hl => ?_)
    refine lv_iconst (v := 0) hx hb dX8_menFor_13 (by decide) ?_
    refine lv_istore_n (lv' := [(3, .int 0), (2, .int ((-1000000))), (0, .ref (Z.1 30 0)), (1, .int a1)]) hx hb dX8_menFor_14 rfl hl (by decide) rfl (fun ls hl => ?_)
    have hl := lv_sub (l' := [(0, .ref (Z.1 30 0)), (1, .int a1), (2, .int ((-1000000))), (3, .int 0)]) hl [2, 3, 1, 0] rfl
    exact loop15 2000 ((-1000000)) 0 _ _ _ hF hw hl
  · skip
    have hF := hF.trans (if_neg c26)
    refine lv_iconst (v := 0) hx hb dX8_menFor_8 (by decide) ?_
    exact hret _ _ _ _ _ _ hw dX8_menFor_9 ⟨hF, rfl⟩
abbrev rmX8_fewest : Room := { frames := 5, cells := 0, slots := 0, locals := 126 }
def b_X8_fewest_L17  (rec17 : Mm → Int32 → Int32 → Option (Int32 × Mm))  (w17 : Mm) (x1_17 : Int32) (x2_17 : Int32) : Option (Int32 × Mm) := if x1_17 < x2_17 then (if x1_17 < 0 ∨ 64 ≤ Int32.toNatClampNeg x1_17 then none else (some (w17 42 0 (Int32.toNatClampNeg x1_17), w17))) else (Option.bind (g_X8_menFor w17 x2_17) (fun r11 => if x2_17 < 0 ∨ 64 ≤ Int32.toNatClampNeg x2_17 then none else (Option.bind (some (up3 w17 42 0 (Int32.toNatClampNeg x2_17) r11)) (fun v14 => rec17 v14 x1_17 (x2_17 + 1)))))
def g_X8_fewest_L17   : Nat → Mm → Int32 → Int32 → Option (Int32 × Mm)
  | 0 => fun _ _ _ => none
  | n + 1 => b_X8_fewest_L17  (g_X8_fewest_L17   n) 
def g_X8_fewest (v : Mm)  : Option (Int32 × Mm) := Option.bind (g_X8_isGate v) (fun r2 => if r2 = 0 then (some ((-1000002), v)) else (Option.bind (g_X8_agreeing v) (fun r6 => g_X8_fewest_L17   2000 v r6 0)))
set_option maxHeartbeats 4000000 in
set_option maxRecDepth 100000 in
theorem d_X8_fewest (l : Launch) (E : kq_T) (Z : km_Z) (v : Mm) (hs : g_X8_fewest v ≠ none) : km_I l E Z cntM yX8_fewest wsX8_fewest rmX8_fewest [.ref (Z.1 30 0)] v (fun r v1 => g_X8_fewest v = some (r, v1)) := by
  refine km_goI (cc := cX8_fewest) (maxL := 3) (by decide) rfl (Nat.le_of_ble_eq_true rfl) rfl rfl rfl ?_
  intro p e s m below meth c A ls Q C hK hw hl hret
  obtain ⟨hx, hb, hml, hown, hts, -, -, -⟩ := C
  have hown : s.vm.findClass RX8 = some m.cls := hown
  have hl : lv_has ls 3 [(0, .ref (Z.1 30 0))] := hl
  have hF := g_X8_fewest.eq_1 v 
  have loop17 : ∀ (n17 : Nat) (w17 : Mm) (x1_17 : Int32) (x2_17 : Int32) (H : Heap) (locs : List Loc) (ls : Array Slot), g_X8_fewest v = g_X8_fewest_L17   n17 w17 x1_17 x2_17 → km_w E A s.heap [] Z cntM w17 H locs → lv_has ls 3 [(0, .ref (Z.1 30 0)), (1, .int x1_17), (2, .int x2_17)] → W p l e rmX8_fewest s m [.ref (Z.1 30 0)].toArray below meth c H locs 0 0 Q (F0 m 17 ls []) := by
    intro n17
    induction n17 with
    | zero => intro w17 x1_17 x2_17 H locs ls hF hw hl; exact absurd (show g_X8_fewest v = none from hF) hs
    | succ n17 ih17 =>
      intro w17 x1_17 x2_17 H locs ls hF hw hl
      have hF := hF.trans (b_X8_fewest_L17.eq_1  (g_X8_fewest_L17   n17)  w17 x1_17 x2_17)
      refine lv_iload_n hx hb dX8_fewest_17 rfl (lv_at hl 2 rfl) ?_
      refine lv_iload_n hx hb dX8_fewest_18 rfl (lv_at hl 1 rfl) ?_
      refine lv_icmp_gt (tgt := 39) hx hb dX8_fewest_19 (by decide) (fun c1 => ?_) (fun c1 => ?_)
      · skip
        have hF := hF.trans (if_pos c1)
        refine lv_aload_n hx hb dX8_fewest_39 rfl (lv_at hl 0 rfl) ?_
        refine km_get (ci := 8) (C := RX8) (T := TX8) (N := 23) (t := 30) (i := 0) hx hb hts fi_X8_fewest_X8 hown hK hw (by decide) (by decide) rfl rfl 20 (by decide) (hts (.fieldLink RX8 44 "WrongWordModel" "men" "[I") ow_X8_fewest_44) rfl dX8_fewest_40 ?_
        refine lv_iload_n hx hb dX8_fewest_43 rfl (lv_at hl 1 rfl) ?_
        have hb2 : ¬ (x1_17 < 0 ∨ 64 ≤ Int32.toNatClampNeg x1_17) := fun q => hs (hF.trans (if_pos q))
        have hF := hF.trans (if_neg hb2)
        refine km_iald (t := 42) (i := 0) hx hb hK hw (by decide) (by decide) rfl hb2 dX8_fewest_44 ?_
        exact hret _ _ _ _ _ _ hw dX8_fewest_45 hF
      · skip
        have hF := hF.trans (if_neg c1)
        refine lv_aload_n hx hb dX8_fewest_22 rfl (lv_at hl 0 rfl) ?_
        refine km_get (ci := 8) (C := RX8) (T := TX8) (N := 23) (t := 30) (i := 0) hx hb hts fi_X8_fewest_X8 hown hK hw (by decide) (by decide) rfl rfl 20 (by decide) (hts (.fieldLink RX8 44 "WrongWordModel" "men" "[I") ow_X8_fewest_44) rfl dX8_fewest_23 ?_
        refine lv_iload_n hx hb dX8_fewest_26 rfl (lv_at hl 2 rfl) ?_
        refine lv_aload_n hx hb dX8_fewest_27 rfl (lv_at hl 0 rfl) ?_
        refine lv_iload_n hx hb dX8_fewest_28 rfl (lv_at hl 2 rfl) ?_
        have hs3 : g_X8_menFor w17 x2_17 ≠ none := fun q => hs (hF.trans (kb_n q _))
        refine km_cI (As := [.int x2_17]) (rest := [.int x2_17, .ref (Z.1 42 0)]) (n := 1) (q := (RX8, TX8, 23)) (ci := 8) (t := 30) (i := 0) ⟨hx, hb, hml, hown, hts⟩ (d_X8_menFor l E Z w17 x2_17 hs3) gX8_fewest_X8_menFor rfl hV_X8_menFor ⟨Nat.le_of_ble_eq_true rfl, Nat.le_of_ble_eq_true rfl⟩ hK hw (by decide) (by decide) rfl rfl rfl hl.1 rfl (Nat.le_of_ble_eq_true rfl) dX8_fewest_29 rfl rfl (fun r4 v5 H locs hp hw => ?_)
        obtain ⟨hp, rfl⟩ := hp
        have hF := hF.trans (kb_some hp _)
        have hb6 : ¬ (x2_17 < 0 ∨ 64 ≤ Int32.toNatClampNeg x2_17) := fun q => hs (hF.trans (if_pos q))
        have hF := hF.trans (if_neg hb6)
        refine km_iast (t := 42) (i := 0) (n := 64) hx hb hK hw (by decide) (by decide) (fun _ => rfl) hb6 dX8_fewest_32 (fun H locs hw => ?_)
        obtain ⟨v7, ev7⟩ : ∃ z, z = up3 w17 42 0 (Int32.toNatClampNeg x2_17) r4 := ⟨_, rfl⟩
        rw [← ev7] at hw
        have hF := hF.trans (kb_some (congrArg some ev7.symm) _)
        refine lv_iinc (v := x2_17 + 1) (lv' := [(2, .int (x2_17 + 1)), (0, .ref (Z.1 30 0)), (1, .int x1_17)]) hx hb dX8_fewest_33 hl (k := 2) rfl rfl (by decide) rfl (fun ls hl => ?_)
        refine lv_goto (tgt := 17) hx hb dX8_fewest_36 (by decide) ?_
        have hl := lv_sub (l' := [(0, .ref (Z.1 30 0)), (1, .int x1_17), (2, .int (x2_17 + 1))]) hl [1, 2, 0] rfl
        exact ih17 v7 x1_17 (x2_17 + 1) _ _ _ hF hw hl
  refine lv_aload_n hx hb dX8_fewest_0 rfl (lv_at hl 0 rfl) ?_
  have hs8 : g_X8_isGate v ≠ none := fun q => hs (hF.trans (kb_n q _))
  refine km_cI (As := []) (rest := []) (n := 0) (q := (RX8, TX8, 23)) (ci := 8) (t := 30) (i := 0) ⟨hx, hb, hml, hown, hts⟩ (d_X8_isGate l E Z v  hs8) gX8_fewest_X8_isGate rfl hV_X8_isGate ⟨Nat.le_of_ble_eq_true rfl, Nat.le_of_ble_eq_true rfl⟩ hK hw (by decide) (by decide) rfl rfl rfl hl.1 rfl (Nat.le_of_ble_eq_true rfl) dX8_fewest_1 rfl rfl (fun r9 v10 H locs hp hw => ?_)
  obtain ⟨hp, hzr9⟩ := hp
  obtain ⟨hp, rfl⟩ := hp
  have hF := hF.trans (kb_some hp _)
  refine lv_if_ne (tgt := 10) hx hb dX8_fewest_4 (by decide) (fun c11 => ?_) (fun c11 => ?_)
  · skip
    have hF := hF.trans (if_neg c11)
    refine lv_aload_n hx hb dX8_fewest_10 rfl (lv_at hl 0 rfl) ?_
    have hs12 : g_X8_agreeing v ≠ none := fun q => hs (hF.trans (kb_n q _))
    refine km_cI (As := []) (rest := []) (n := 0) (q := (RX8, TX8, 23)) (ci := 8) (t := 30) (i := 0) ⟨hx, hb, hml, hown, hts⟩ (d_X8_agreeing l E Z v  hs12) gX8_fewest_X8_agreeing rfl hV_X8_agreeing ⟨Nat.le_of_ble_eq_true rfl, Nat.le_of_ble_eq_true rfl⟩ hK hw (by decide) (by decide) rfl rfl rfl hl.1 rfl (Nat.le_of_ble_eq_true rfl) dX8_fewest_11 rfl rfl (fun r13 v14 H locs hp hw => ?_)
    obtain ⟨hp, rfl⟩ := hp
    have hF := hF.trans (kb_some hp _)
    refine lv_istore_n (lv' := [(1, .int r13), (0, .ref (Z.1 30 0))]) hx hb dX8_fewest_14 rfl hl (by decide) rfl (fun ls hl => ?_)
    refine lv_iconst (v := 0) hx hb dX8_fewest_15 (by decide) ?_
    refine lv_istore_n (lv' := [(2, .int 0), (1, .int r13), (0, .ref (Z.1 30 0))]) hx hb dX8_fewest_16 rfl hl (by decide) rfl (fun ls hl => ?_)
    have hl := lv_sub (l' := [(0, .ref (Z.1 30 0)), (1, .int r13), (2, .int 0)]) hl [2, 1, 0] rfl
    exact loop17 2000 v r13 0 _ _ _ hF hw hl
  · skip
    have hF := hF.trans (if_pos c11)
    refine lv_ldc (v := (-1000002)) hx hb hown (hts (.constant RX8 183 (-1000002)) ow_X8_fewest_183) dX8_fewest_7 ?_
    exact hret _ _ _ _ _ _ hw dX8_fewest_9 hF
abbrev rmX8_march : Room := { frames := 4, cells := 0, slots := 0, locals := 98 }
def b_X8_march_L114 (rec82 : Mm → Int32 → Int32 → Int32 → Option (Int32 × Mm)) (rec114 : Mm → Int32 → Int32 → Int32 → Int32 → Option (Int32 × Mm)) (a1 : Int32) (a2 : Int32) (a3 : Int32) (a4 : Int32) (w114 : Mm) (x5_114 : Int32) (x6_114 : Int32) (x7_114 : Int32) (x8_114 : Int32) : Option (Int32 × Mm) := if 6 ≤ x5_114 then (if x7_114 = a4 then (rec82 w114 x5_114 x5_114 (x7_114 + 1)) else (if a4 = (-1) then (rec82 w114 x5_114 x5_114 (x7_114 + 1)) else (rec82 w114 x5_114 x6_114 (x7_114 + 1)))) else (Option.bind (g_X8_isWord w114 x8_114) (fun r47 => if r47 = 0 then (rec114 w114 (x5_114 + 1) x6_114 x7_114 x8_114) else (Option.bind (g_X8_isTakenNow w114 x8_114 x5_114 0) (fun r51 => if r51 = 0 then (if x7_114 = a4 then (rec82 w114 x5_114 x5_114 (x7_114 + 1)) else (if a4 = (-1) then (rec82 w114 x5_114 x5_114 (x7_114 + 1)) else (rec82 w114 x5_114 x6_114 (x7_114 + 1)))) else (rec114 w114 (x5_114 + 1) x6_114 x7_114 x8_114)))))
def g_X8_march_L114 (rec82 : Mm → Int32 → Int32 → Int32 → Option (Int32 × Mm)) (a1 : Int32) (a2 : Int32) (a3 : Int32) (a4 : Int32) : Nat → Mm → Int32 → Int32 → Int32 → Int32 → Option (Int32 × Mm)
  | 0 => fun _ _ _ _ _ => none
  | n + 1 => b_X8_march_L114 rec82 (g_X8_march_L114 rec82 a1 a2 a3 a4 n) a1 a2 a3 a4
def b_X8_march_L82  (rec82 : Mm → Int32 → Int32 → Int32 → Option (Int32 × Mm)) (a1 : Int32) (a2 : Int32) (a3 : Int32) (a4 : Int32) (w82 : Mm) (x5_82 : Int32) (x6_82 : Int32) (x7_82 : Int32) : Option (Int32 × Mm) := if a3 ≤ x7_82 then (if 6 ≤ x5_82 then (kb2 (g_X8_well w82 ((-1000000))) (fun r28 v29 => some (r28, v29))) else (kb2 (g_X8_well w82 x6_82) (fun r31 v32 => some (r31, v32)))) else (if 6 ≤ x5_82 then (if 6 ≤ x5_82 then (kb2 (g_X8_well w82 ((-1000000))) (fun r36 v37 => some (r36, v37))) else (kb2 (g_X8_well w82 x6_82) (fun r39 v40 => some (r39, v40)))) else (if (((40 : Int32) * a1) + a2) + x7_82 < 0 ∨ 320 ≤ Int32.toNatClampNeg ((((40 : Int32) * a1) + a2) + x7_82) then none else (Option.bind (some (w82 33 0 (Int32.toNatClampNeg ((((40 : Int32) * a1) + a2) + x7_82)))) (fun x42 => g_X8_march_L114 rec82 a1 a2 a3 a4 2000 w82 (x5_82 + 1) x6_82 x7_82 x42))))
def g_X8_march_L82  (a1 : Int32) (a2 : Int32) (a3 : Int32) (a4 : Int32) : Nat → Mm → Int32 → Int32 → Int32 → Option (Int32 × Mm)
  | 0 => fun _ _ _ _ => none
  | n + 1 => b_X8_march_L82  (g_X8_march_L82  a1 a2 a3 a4 n) a1 a2 a3 a4
def g_X8_march (v : Mm) (a1 : Int32) (a2 : Int32) (a3 : Int32) (a4 : Int32) : Option (Int32 × Mm) := Option.bind (g_X8_isGate v) (fun r2 => if r2 = 0 then (some ((-1000002), v)) else (Option.bind (g_X8_isRow v a1) (fun r6 => if r6 = 0 then (some ((-1000001), v)) else (Option.bind (g_X8_in v a3 1 6) (fun r10 => if r10 = 0 then (some ((-1000001), v)) else (Option.bind (g_X8_in v a4 ((-1)) (a3 - 1)) (fun r14 => if r14 = 0 then (some ((-1000001), v)) else (Option.bind (g_X8_isMissing v a1) (fun r18 => if r18 = 0 then (Option.bind (g_X8_isPart v a1 a2 a3) (fun r22 => if r22 = 0 then (kb2 (g_X8_found v 2) (fun r26 v27 => some (r26, v27))) else (g_X8_march_L82  a1 a2 a3 a4 2000 v ((-1)) ((-1000000)) 0))) else (kb2 (g_X8_found v 1) (fun r29 v30 => some (r29, v30))))))))))))
set_option maxHeartbeats 4000000 in
set_option maxRecDepth 100000 in
theorem d_X8_march (l : Launch) (E : kq_T) (Z : km_Z) (v : Mm) (a1 : Int32) (a2 : Int32) (a3 : Int32) (a4 : Int32) (hs : g_X8_march v a1 a2 a3 a4 ≠ none) : km_I l E Z cntM yX8_march wsX8_march rmX8_march [.ref (Z.1 30 0), .int a1, .int a2, .int a3, .int a4] v (fun r v1 => g_X8_march v a1 a2 a3 a4 = some (r, v1)) := by
  refine km_goI (cc := cX8_march) (maxL := 9) (by decide) rfl (Nat.le_of_ble_eq_true rfl) rfl rfl rfl ?_
  intro p e s m below meth c A ls Q C hK hw hl hret
  obtain ⟨hx, hb, hml, hown, hts, -, -, -⟩ := C
  have hown : s.vm.findClass RX8 = some m.cls := hown
  have hl : lv_has ls 9 [(0, .ref (Z.1 30 0)), (1, .int a1), (2, .int a2), (3, .int a3), (4, .int a4)] := hl
  have hF := g_X8_march.eq_1 v a1 a2 a3 a4
  have loop82 : ∀ (n82 : Nat) (w82 : Mm) (x5_82 : Int32) (x6_82 : Int32) (x7_82 : Int32) (H : Heap) (locs : List Loc) (ls : Array Slot), g_X8_march v a1 a2 a3 a4 = g_X8_march_L82  a1 a2 a3 a4 n82 w82 x5_82 x6_82 x7_82 → km_w E A s.heap [] Z cntM w82 H locs → lv_has ls 9 [(0, .ref (Z.1 30 0)), (1, .int a1), (2, .int a2), (3, .int a3), (4, .int a4), (5, .int x5_82), (6, .int x6_82), (7, .int x7_82)] → W p l e rmX8_march s m [.ref (Z.1 30 0), .int a1, .int a2, .int a3, .int a4].toArray below meth c H locs 0 0 Q (F0 m 82 ls []) := by
    intro n82
    induction n82 with
    | zero => intro w82 x5_82 x6_82 x7_82 H locs ls hF hw hl; exact absurd (show g_X8_march v a1 a2 a3 a4 = none from hF) hs
    | succ n82 ih82 =>
      intro w82 x5_82 x6_82 x7_82 H locs ls hF hw hl
      have hF := hF.trans (b_X8_march_L82.eq_1  (g_X8_march_L82  a1 a2 a3 a4 n82) a1 a2 a3 a4 w82 x5_82 x6_82 x7_82)
      have loop114 : ∀ (n114 : Nat) (w114 : Mm) (x5_114 : Int32) (x6_114 : Int32) (x7_114 : Int32) (x8_114 : Int32) (H : Heap) (locs : List Loc) (ls : Array Slot), g_X8_march v a1 a2 a3 a4 = g_X8_march_L114 (g_X8_march_L82  a1 a2 a3 a4 n82) a1 a2 a3 a4 n114 w114 x5_114 x6_114 x7_114 x8_114 → km_w E A s.heap [] Z cntM w114 H locs → lv_has ls 9 [(0, .ref (Z.1 30 0)), (1, .int a1), (2, .int a2), (3, .int a3), (4, .int a4), (5, .int x5_114), (6, .int x6_114), (7, .int x7_114), (8, .int x8_114)] → W p l e rmX8_march s m [.ref (Z.1 30 0), .int a1, .int a2, .int a3, .int a4].toArray below meth c H locs 0 0 Q (F0 m 114 ls []) := by
        intro n114
        induction n114 with
        | zero => intro w114 x5_114 x6_114 x7_114 x8_114 H locs ls hF hw hl; exact absurd (show g_X8_march v a1 a2 a3 a4 = none from hF) hs
        | succ n114 ih114 =>
          intro w114 x5_114 x6_114 x7_114 x8_114 H locs ls hF hw hl
          have hF := hF.trans (b_X8_march_L114.eq_1 (g_X8_march_L82  a1 a2 a3 a4 n82) (g_X8_march_L114 (g_X8_march_L82  a1 a2 a3 a4 n82) a1 a2 a3 a4 n114) a1 a2 a3 a4 w114 x5_114 x6_114 x7_114 x8_114)
          refine lv_iload hx hb dX8_march_114 (lv_at hl 5 rfl) ?_
          refine lv_bipush (v := 6) hx hb dX8_march_116 (by decide) ?_
          refine lv_icmp_ge (tgt := 148) hx hb dX8_march_118 (by decide) (fun c1 => ?_) (fun c1 => ?_)
          · skip
            have hF := hF.trans (if_pos c1)
            refine lv_iload hx hb dX8_march_148 (lv_at hl 7 rfl) ?_
            refine lv_iload hx hb dX8_march_150 (lv_at hl 4 rfl) ?_
            refine lv_icmp_eq (tgt := 161) hx hb dX8_march_152 (by decide) (fun c2 => ?_) (fun c2 => ?_)
            · skip
              have hF := hF.trans (if_pos c2)
              refine lv_iload hx hb dX8_march_161 (lv_at hl 5 rfl) ?_
              refine lv_goto (tgt := 168) hx hb dX8_march_163 (by decide) ?_
              refine lv_istore (lv' := [(6, .int x5_114), (0, .ref (Z.1 30 0)), (1, .int a1), (2, .int a2), (3, .int a3), (4, .int a4), (5, .int x5_114), (7, .int x7_114), (8, .int x8_114)]) hx hb dX8_march_168 hl (by decide) rfl (fun ls hl => ?_)
              refine lv_iinc (v := x7_114 + 1) (lv' := [(7, .int (x7_114 + 1)), (6, .int x5_114), (0, .ref (Z.1 30 0)), (1, .int a1), (2, .int a2), (3, .int a3), (4, .int a4), (5, .int x5_114), (8, .int x8_114)]) hx hb dX8_march_170 hl (k := 7) rfl rfl (by decide) rfl (fun ls hl => ?_)
              refine lv_goto (tgt := 82) hx hb dX8_march_173 (by decide) ?_
              have hl := lv_sub (l' := [(0, .ref (Z.1 30 0)), (1, .int a1), (2, .int a2), (3, .int a3), (4, .int a4), (5, .int x5_114), (6, .int x5_114), (7, .int (x7_114 + 1))]) hl [2, 3, 4, 5, 6, 7, 1, 0] rfl
              exact ih82 w114 x5_114 x5_114 (x7_114 + 1) _ _ _ hF hw hl
            · skip
              have hF := hF.trans (if_neg c2)
              refine lv_iload hx hb dX8_march_155 (lv_at hl 4 rfl) ?_
              refine lv_iconst (v := (-1)) hx hb dX8_march_157 (by decide) ?_
              refine lv_icmp_ne (tgt := 166) hx hb dX8_march_158 (by decide) (fun c3 => ?_) (fun c3 => ?_)
              · skip
                have hF := hF.trans (if_neg c3)
                refine lv_iload hx hb dX8_march_166 (lv_at hl 6 rfl) ?_
                refine lv_istore (lv' := [(6, .int x6_114), (0, .ref (Z.1 30 0)), (1, .int a1), (2, .int a2), (3, .int a3), (4, .int a4), (5, .int x5_114), (7, .int x7_114), (8, .int x8_114)]) hx hb dX8_march_168 hl (by decide) rfl (fun ls hl => ?_)
                refine lv_iinc (v := x7_114 + 1) (lv' := [(7, .int (x7_114 + 1)), (6, .int x6_114), (0, .ref (Z.1 30 0)), (1, .int a1), (2, .int a2), (3, .int a3), (4, .int a4), (5, .int x5_114), (8, .int x8_114)]) hx hb dX8_march_170 hl (k := 7) rfl rfl (by decide) rfl (fun ls hl => ?_)
                refine lv_goto (tgt := 82) hx hb dX8_march_173 (by decide) ?_
                have hl := lv_sub (l' := [(0, .ref (Z.1 30 0)), (1, .int a1), (2, .int a2), (3, .int a3), (4, .int a4), (5, .int x5_114), (6, .int x6_114), (7, .int (x7_114 + 1))]) hl [2, 3, 4, 5, 6, 7, 1, 0] rfl
                exact ih82 w114 x5_114 x6_114 (x7_114 + 1) _ _ _ hF hw hl
              · skip
                have hF := hF.trans (if_pos c3)
                refine lv_iload hx hb dX8_march_161 (lv_at hl 5 rfl) ?_
                refine lv_goto (tgt := 168) hx hb dX8_march_163 (by decide) ?_
                refine lv_istore (lv' := [(6, .int x5_114), (0, .ref (Z.1 30 0)), (1, .int a1), (2, .int a2), (3, .int a3), (4, .int a4), (5, .int x5_114), (7, .int x7_114), (8, .int x8_114)]) hx hb dX8_march_168 hl (by decide) rfl (fun ls hl => ?_)
                refine lv_iinc (v := x7_114 + 1) (lv' := [(7, .int (x7_114 + 1)), (6, .int x5_114), (0, .ref (Z.1 30 0)), (1, .int a1), (2, .int a2), (3, .int a3), (4, .int a4), (5, .int x5_114), (8, .int x8_114)]) hx hb dX8_march_170 hl (k := 7) rfl rfl (by decide) rfl (fun ls hl => ?_)
                refine lv_goto (tgt := 82) hx hb dX8_march_173 (by decide) ?_
                have hl := lv_sub (l' := [(0, .ref (Z.1 30 0)), (1, .int a1), (2, .int a2), (3, .int a3), (4, .int a4), (5, .int x5_114), (6, .int x5_114), (7, .int (x7_114 + 1))]) hl [2, 3, 4, 5, 6, 7, 1, 0] rfl
                exact ih82 w114 x5_114 x5_114 (x7_114 + 1) _ _ _ hF hw hl
          · skip
            have hF := hF.trans (if_neg c1)
            refine lv_aload_n hx hb dX8_march_121 rfl (lv_at hl 0 rfl) ?_
            refine lv_iload hx hb dX8_march_122 (lv_at hl 8 rfl) ?_
            have hs4 : g_X8_isWord w114 x8_114 ≠ none := fun q => hs (hF.trans (kb_n q _))
            refine km_cI (As := [.int x8_114]) (rest := []) (n := 1) (q := (RX8, TX8, 23)) (ci := 8) (t := 30) (i := 0) ⟨hx, hb, hml, hown, hts⟩ (d_X8_isWord l E Z w114 x8_114 hs4) gX8_march_X8_isWord rfl hV_X8_isWord ⟨Nat.le_of_ble_eq_true rfl, Nat.le_of_ble_eq_true rfl⟩ hK hw (by decide) (by decide) rfl rfl rfl hl.1 rfl (Nat.le_of_ble_eq_true rfl) dX8_march_124 rfl rfl (fun r5 v6 H locs hp hw => ?_)
            obtain ⟨hp, hzr5⟩ := hp
            obtain ⟨hp, rfl⟩ := hp
            have hF := hF.trans (kb_some hp _)
            refine lv_if_eq (tgt := 142) hx hb dX8_march_127 (by decide) (fun c7 => ?_) (fun c7 => ?_)
            · skip
              have hF := hF.trans (if_pos c7)
              refine lv_iinc (v := x5_114 + 1) (lv' := [(5, .int (x5_114 + 1)), (0, .ref (Z.1 30 0)), (1, .int a1), (2, .int a2), (3, .int a3), (4, .int a4), (6, .int x6_114), (7, .int x7_114), (8, .int x8_114)]) hx hb dX8_march_142 hl (k := 5) rfl rfl (by decide) rfl (fun ls hl => ?_)
              refine lv_goto (tgt := 114) hx hb dX8_march_145 (by decide) ?_
              have hl := lv_sub (l' := [(0, .ref (Z.1 30 0)), (1, .int a1), (2, .int a2), (3, .int a3), (4, .int a4), (5, .int (x5_114 + 1)), (6, .int x6_114), (7, .int x7_114), (8, .int x8_114)]) hl [1, 2, 3, 4, 5, 0, 6, 7, 8] rfl
              exact ih114 w114 (x5_114 + 1) x6_114 x7_114 x8_114 _ _ _ hF hw hl
            · skip
              have hF := hF.trans (if_neg c7)
              refine lv_aload_n hx hb dX8_march_130 rfl (lv_at hl 0 rfl) ?_
              refine lv_iload hx hb dX8_march_131 (lv_at hl 8 rfl) ?_
              refine lv_iload hx hb dX8_march_133 (lv_at hl 5 rfl) ?_
              refine lv_iconst (v := 0) hx hb dX8_march_135 (by decide) ?_
              have hs8 : g_X8_isTakenNow w114 x8_114 x5_114 0 ≠ none := fun q => hs (hF.trans (kb_n q _))
              refine km_cI (As := [.int x8_114, .int x5_114, .int 0]) (rest := []) (n := 3) (q := (RX8, TX8, 23)) (ci := 8) (t := 30) (i := 0) ⟨hx, hb, hml, hown, hts⟩ (d_X8_isTakenNow l E Z w114 x8_114 x5_114 0 hs8) gX8_march_X8_isTakenNow rfl hV_X8_isTakenNow ⟨Nat.le_of_ble_eq_true rfl, Nat.le_of_ble_eq_true rfl⟩ hK hw (by decide) (by decide) rfl rfl rfl hl.1 rfl (Nat.le_of_ble_eq_true rfl) dX8_march_136 rfl rfl (fun r9 v10 H locs hp hw => ?_)
              obtain ⟨hp, hzr9⟩ := hp
              obtain ⟨hp, rfl⟩ := hp
              have hF := hF.trans (kb_some hp _)
              refine lv_if_eq (tgt := 148) hx hb dX8_march_139 (by decide) (fun c11 => ?_) (fun c11 => ?_)
              · skip
                have hF := hF.trans (if_pos c11)
                refine lv_iload hx hb dX8_march_148 (lv_at hl 7 rfl) ?_
                refine lv_iload hx hb dX8_march_150 (lv_at hl 4 rfl) ?_
                refine lv_icmp_eq (tgt := 161) hx hb dX8_march_152 (by decide) (fun c12 => ?_) (fun c12 => ?_)
                · skip
                  have hF := hF.trans (if_pos c12)
                  refine lv_iload hx hb dX8_march_161 (lv_at hl 5 rfl) ?_
                  refine lv_goto (tgt := 168) hx hb dX8_march_163 (by decide) ?_
                  refine lv_istore (lv' := [(6, .int x5_114), (0, .ref (Z.1 30 0)), (1, .int a1), (2, .int a2), (3, .int a3), (4, .int a4), (5, .int x5_114), (7, .int x7_114), (8, .int x8_114)]) hx hb dX8_march_168 hl (by decide) rfl (fun ls hl => ?_)
                  refine lv_iinc (v := x7_114 + 1) (lv' := [(7, .int (x7_114 + 1)), (6, .int x5_114), (0, .ref (Z.1 30 0)), (1, .int a1), (2, .int a2), (3, .int a3), (4, .int a4), (5, .int x5_114), (8, .int x8_114)]) hx hb dX8_march_170 hl (k := 7) rfl rfl (by decide) rfl (fun ls hl => ?_)
                  refine lv_goto (tgt := 82) hx hb dX8_march_173 (by decide) ?_
                  have hl := lv_sub (l' := [(0, .ref (Z.1 30 0)), (1, .int a1), (2, .int a2), (3, .int a3), (4, .int a4), (5, .int x5_114), (6, .int x5_114), (7, .int (x7_114 + 1))]) hl [2, 3, 4, 5, 6, 7, 1, 0] rfl
                  exact ih82 w114 x5_114 x5_114 (x7_114 + 1) _ _ _ hF hw hl
                · skip
                  have hF := hF.trans (if_neg c12)
                  refine lv_iload hx hb dX8_march_155 (lv_at hl 4 rfl) ?_
                  refine lv_iconst (v := (-1)) hx hb dX8_march_157 (by decide) ?_
                  refine lv_icmp_ne (tgt := 166) hx hb dX8_march_158 (by decide) (fun c13 => ?_) (fun c13 => ?_)
                  · skip
                    have hF := hF.trans (if_neg c13)
                    refine lv_iload hx hb dX8_march_166 (lv_at hl 6 rfl) ?_
                    refine lv_istore (lv' := [(6, .int x6_114), (0, .ref (Z.1 30 0)), (1, .int a1), (2, .int a2), (3, .int a3), (4, .int a4), (5, .int x5_114), (7, .int x7_114), (8, .int x8_114)]) hx hb dX8_march_168 hl (by decide) rfl (fun ls hl => ?_)
                    refine lv_iinc (v := x7_114 + 1) (lv' := [(7, .int (x7_114 + 1)), (6, .int x6_114), (0, .ref (Z.1 30 0)), (1, .int a1), (2, .int a2), (3, .int a3), (4, .int a4), (5, .int x5_114), (8, .int x8_114)]) hx hb dX8_march_170 hl (k := 7) rfl rfl (by decide) rfl (fun ls hl => ?_)
                    refine lv_goto (tgt := 82) hx hb dX8_march_173 (by decide) ?_
                    have hl := lv_sub (l' := [(0, .ref (Z.1 30 0)), (1, .int a1), (2, .int a2), (3, .int a3), (4, .int a4), (5, .int x5_114), (6, .int x6_114), (7, .int (x7_114 + 1))]) hl [2, 3, 4, 5, 6, 7, 1, 0] rfl
                    exact ih82 w114 x5_114 x6_114 (x7_114 + 1) _ _ _ hF hw hl
                  · skip
                    have hF := hF.trans (if_pos c13)
                    refine lv_iload hx hb dX8_march_161 (lv_at hl 5 rfl) ?_
                    refine lv_goto (tgt := 168) hx hb dX8_march_163 (by decide) ?_
                    refine lv_istore (lv' := [(6, .int x5_114), (0, .ref (Z.1 30 0)), (1, .int a1), (2, .int a2), (3, .int a3), (4, .int a4), (5, .int x5_114), (7, .int x7_114), (8, .int x8_114)]) hx hb dX8_march_168 hl (by decide) rfl (fun ls hl => ?_)
                    refine lv_iinc (v := x7_114 + 1) (lv' := [(7, .int (x7_114 + 1)), (6, .int x5_114), (0, .ref (Z.1 30 0)), (1, .int a1), (2, .int a2), (3, .int a3), (4, .int a4), (5, .int x5_114), (8, .int x8_114)]) hx hb dX8_march_170 hl (k := 7) rfl rfl (by decide) rfl (fun ls hl => ?_)
                    refine lv_goto (tgt := 82) hx hb dX8_march_173 (by decide) ?_
                    have hl := lv_sub (l' := [(0, .ref (Z.1 30 0)), (1, .int a1), (2, .int a2), (3, .int a3), (4, .int a4), (5, .int x5_114), (6, .int x5_114), (7, .int (x7_114 + 1))]) hl [2, 3, 4, 5, 6, 7, 1, 0] rfl
                    exact ih82 w114 x5_114 x5_114 (x7_114 + 1) _ _ _ hF hw hl
              · skip
                have hF := hF.trans (if_neg c11)
                refine lv_iinc (v := x5_114 + 1) (lv' := [(5, .int (x5_114 + 1)), (0, .ref (Z.1 30 0)), (1, .int a1), (2, .int a2), (3, .int a3), (4, .int a4), (6, .int x6_114), (7, .int x7_114), (8, .int x8_114)]) hx hb dX8_march_142 hl (k := 5) rfl rfl (by decide) rfl (fun ls hl => ?_)
                refine lv_goto (tgt := 114) hx hb dX8_march_145 (by decide) ?_
                have hl := lv_sub (l' := [(0, .ref (Z.1 30 0)), (1, .int a1), (2, .int a2), (3, .int a3), (4, .int a4), (5, .int (x5_114 + 1)), (6, .int x6_114), (7, .int x7_114), (8, .int x8_114)]) hl [1, 2, 3, 4, 5, 0, 6, 7, 8] rfl
                exact ih114 w114 (x5_114 + 1) x6_114 x7_114 x8_114 _ _ _ hF hw hl
      refine lv_iload hx hb dX8_march_82 (lv_at hl 7 rfl) ?_
      refine lv_iload_n hx hb dX8_march_84 rfl (lv_at hl 3 rfl) ?_
      refine lv_icmp_ge (tgt := 176) hx hb dX8_march_85 (by decide) (fun c14 => ?_) (fun c14 => ?_)
      · skip
        have hF := hF.trans (if_pos c14)
        refine lv_aload_n hx hb dX8_march_176 rfl (lv_at hl 0 rfl) ?_
        refine lv_iload hx hb dX8_march_177 (lv_at hl 5 rfl) ?_
        refine lv_bipush (v := 6) hx hb dX8_march_179 (by decide) ?_
        refine lv_icmp_ge (tgt := 189) hx hb dX8_march_181 (by decide) (fun c15 => ?_) (fun c15 => ?_)
        · skip
          have hF := hF.trans (if_pos c15)
          refine lv_ldc (v := (-1000000)) hx hb hown (hts (.constant RX8 50 (-1000000)) ow_X8_march_50) dX8_march_189 ?_
          have hs16 : g_X8_well w82 ((-1000000)) ≠ none := fun q => hs (hF.trans (kb2_n q _))
          refine km_cI (As := [.int ((-1000000))]) (rest := []) (n := 1) (q := (RX8, TX8, 23)) (ci := 8) (t := 30) (i := 0) ⟨hx, hb, hml, hown, hts⟩ (d_X8_well l E Z w82 ((-1000000)) hs16) gX8_march_X8_well rfl hV_X8_well ⟨Nat.le_of_ble_eq_true rfl, Nat.le_of_ble_eq_true rfl⟩ hK hw (by decide) (by decide) rfl rfl rfl hl.1 rfl (Nat.le_of_ble_eq_true rfl) dX8_march_191 rfl rfl (fun r17 v18 H locs hp hw => ?_)
          have hF := hF.trans (kb2_some hp _)
          exact hret _ _ _ _ _ _ hw dX8_march_194 hF
        · skip
          have hF := hF.trans (if_neg c15)
          refine lv_iload hx hb dX8_march_184 (lv_at hl 6 rfl) ?_
          refine lv_goto (tgt := 191) hx hb dX8_march_186 (by decide) ?_
          have hs19 : g_X8_well w82 x6_82 ≠ none := fun q => hs (hF.trans (kb2_n q _))
          refine km_cI (As := [.int x6_82]) (rest := []) (n := 1) (q := (RX8, TX8, 23)) (ci := 8) (t := 30) (i := 0) ⟨hx, hb, hml, hown, hts⟩ (d_X8_well l E Z w82 x6_82 hs19) gX8_march_X8_well rfl hV_X8_well ⟨Nat.le_of_ble_eq_true rfl, Nat.le_of_ble_eq_true rfl⟩ hK hw (by decide) (by decide) rfl rfl rfl hl.1 rfl (Nat.le_of_ble_eq_true rfl) dX8_march_191 rfl rfl (fun r20 v21 H locs hp hw => ?_)
          have hF := hF.trans (kb2_some hp _)
          exact hret _ _ _ _ _ _ hw dX8_march_194 hF
      · skip
        have hF := hF.trans (if_neg c14)
        refine lv_iload hx hb dX8_march_88 (lv_at hl 5 rfl) ?_
        refine lv_bipush (v := 6) hx hb dX8_march_90 (by decide) ?_
        refine lv_icmp_ge (tgt := 176) hx hb dX8_march_92 (by decide) (fun c22 => ?_) (fun c22 => ?_)
        · skip
          have hF := hF.trans (if_pos c22)
          refine lv_aload_n hx hb dX8_march_176 rfl (lv_at hl 0 rfl) ?_
          refine lv_iload hx hb dX8_march_177 (lv_at hl 5 rfl) ?_
          refine lv_bipush (v := 6) hx hb dX8_march_179 (by decide) ?_
          refine lv_icmp_ge (tgt := 189) hx hb dX8_march_181 (by decide) (fun c23 => ?_) (fun c23 => ?_)
          · skip
            have hF := hF.trans (if_pos c23)
            refine lv_ldc (v := (-1000000)) hx hb hown (hts (.constant RX8 50 (-1000000)) ow_X8_march_50) dX8_march_189 ?_
            have hs24 : g_X8_well w82 ((-1000000)) ≠ none := fun q => hs (hF.trans (kb2_n q _))
            refine km_cI (As := [.int ((-1000000))]) (rest := []) (n := 1) (q := (RX8, TX8, 23)) (ci := 8) (t := 30) (i := 0) ⟨hx, hb, hml, hown, hts⟩ (d_X8_well l E Z w82 ((-1000000)) hs24) gX8_march_X8_well rfl hV_X8_well ⟨Nat.le_of_ble_eq_true rfl, Nat.le_of_ble_eq_true rfl⟩ hK hw (by decide) (by decide) rfl rfl rfl hl.1 rfl (Nat.le_of_ble_eq_true rfl) dX8_march_191 rfl rfl (fun r25 v26 H locs hp hw => ?_)
            have hF := hF.trans (kb2_some hp _)
            exact hret _ _ _ _ _ _ hw dX8_march_194 hF
          · skip
            have hF := hF.trans (if_neg c23)
            refine lv_iload hx hb dX8_march_184 (lv_at hl 6 rfl) ?_
            refine lv_goto (tgt := 191) hx hb dX8_march_186 (by decide) ?_
            have hs27 : g_X8_well w82 x6_82 ≠ none := fun q => hs (hF.trans (kb2_n q _))
            refine km_cI (As := [.int x6_82]) (rest := []) (n := 1) (q := (RX8, TX8, 23)) (ci := 8) (t := 30) (i := 0) ⟨hx, hb, hml, hown, hts⟩ (d_X8_well l E Z w82 x6_82 hs27) gX8_march_X8_well rfl hV_X8_well ⟨Nat.le_of_ble_eq_true rfl, Nat.le_of_ble_eq_true rfl⟩ hK hw (by decide) (by decide) rfl rfl rfl hl.1 rfl (Nat.le_of_ble_eq_true rfl) dX8_march_191 rfl rfl (fun r28 v29 H locs hp hw => ?_)
            have hF := hF.trans (kb2_some hp _)
            exact hret _ _ _ _ _ _ hw dX8_march_194 hF
        · skip
          have hF := hF.trans (if_neg c22)
          refine lv_aload_n hx hb dX8_march_95 rfl (lv_at hl 0 rfl) ?_
          refine km_get (ci := 8) (C := RX8) (T := TX8) (N := 23) (t := 30) (i := 0) hx hb hts fi_X8_march_X8 hown hK hw (by decide) (by decide) rfl rfl 2 (by decide) (hts (.fieldLink RX8 16 "WrongWordModel" "items" "[I") ow_X8_march_16) rfl dX8_march_96 ?_
          refine lv_bipush (v := 40) hx hb dX8_march_99 (by decide) ?_
          refine lv_iload_n hx hb dX8_march_101 rfl (lv_at hl 1 rfl) ?_
          refine lv_imul hx hb dX8_march_102 ?_
          refine lv_iload_n hx hb dX8_march_103 rfl (lv_at hl 2 rfl) ?_
          refine lv_iadd hx hb dX8_march_104 ?_
          refine lv_iload hx hb dX8_march_105 (lv_at hl 7 rfl) ?_
          refine lv_iadd hx hb dX8_march_107 ?_
          have hb30 : ¬ ((((40 : Int32) * a1) + a2) + x7_82 < 0 ∨ 320 ≤ Int32.toNatClampNeg ((((40 : Int32) * a1) + a2) + x7_82)) := fun q => hs (hF.trans (if_pos q))
          have hF := hF.trans (if_neg hb30)
          refine km_iald (t := 33) (i := 0) hx hb hK hw (by decide) (by decide) rfl hb30 dX8_march_108 ?_
          refine lv_topi (fun x31 ex31 => ?_)
          have hF := hF.trans (kb_some (congrArg some ex31.symm) _)
          refine lv_istore (lv' := [(8, .int x31), (0, .ref (Z.1 30 0)), (1, .int a1), (2, .int a2), (3, .int a3), (4, .int a4), (5, .int x5_82), (6, .int x6_82), (7, .int x7_82)]) hx hb dX8_march_109 hl (by decide) rfl (fun ls hl => ?_)
          refine lv_iinc (v := x5_82 + 1) (lv' := [(5, .int (x5_82 + 1)), (8, .int x31), (0, .ref (Z.1 30 0)), (1, .int a1), (2, .int a2), (3, .int a3), (4, .int a4), (6, .int x6_82), (7, .int x7_82)]) hx hb dX8_march_111 hl (k := 6) rfl rfl (by decide) rfl (fun ls hl => ?_)
          have hl := lv_sub (l' := [(0, .ref (Z.1 30 0)), (1, .int a1), (2, .int a2), (3, .int a3), (4, .int a4), (5, .int (x5_82 + 1)), (6, .int x6_82), (7, .int x7_82), (8, .int x31)]) hl [2, 3, 4, 5, 6, 0, 7, 8, 1] rfl
          exact loop114 2000 w82 (x5_82 + 1) x6_82 x7_82 x31 _ _ _ hF hw hl
  refine lv_aload_n hx hb dX8_march_0 rfl (lv_at hl 0 rfl) ?_
  have hs32 : g_X8_isGate v ≠ none := fun q => hs (hF.trans (kb_n q _))
  refine km_cI (As := []) (rest := []) (n := 0) (q := (RX8, TX8, 23)) (ci := 8) (t := 30) (i := 0) ⟨hx, hb, hml, hown, hts⟩ (d_X8_isGate l E Z v  hs32) gX8_march_X8_isGate rfl hV_X8_isGate ⟨Nat.le_of_ble_eq_true rfl, Nat.le_of_ble_eq_true rfl⟩ hK hw (by decide) (by decide) rfl rfl rfl hl.1 rfl (Nat.le_of_ble_eq_true rfl) dX8_march_1 rfl rfl (fun r33 v34 H locs hp hw => ?_)
  obtain ⟨hp, hzr33⟩ := hp
  obtain ⟨hp, rfl⟩ := hp
  have hF := hF.trans (kb_some hp _)
  refine lv_if_ne (tgt := 10) hx hb dX8_march_4 (by decide) (fun c35 => ?_) (fun c35 => ?_)
  · skip
    have hF := hF.trans (if_neg c35)
    refine lv_iload_n hx hb dX8_march_10 rfl (lv_at hl 1 rfl) ?_
    have hs36 : g_X8_isRow v a1 ≠ none := fun q => hs (hF.trans (kb_n q _))
    refine km_cS (As := [.int a1]) (rest := []) (n := 1) ⟨hx, hb, hml, hown, hts⟩ (d_X8_isRow l E Z v a1 hs36) gX8_march_X8_isRow rfl hV_X8_isRow ⟨Nat.le_of_ble_eq_true rfl, Nat.le_of_ble_eq_true rfl⟩ hK hw rfl hl.1 rfl (Nat.le_of_ble_eq_true rfl) dX8_march_11 rfl rfl (fun r37 v38 H locs hp hw => ?_)
    obtain ⟨hp, hzr37⟩ := hp
    obtain ⟨hp, rfl⟩ := hp
    have hF := hF.trans (kb_some hp _)
    refine lv_if_eq (tgt := 39) hx hb dX8_march_14 (by decide) (fun c39 => ?_) (fun c39 => ?_)
    · skip
      have hF := hF.trans (if_pos c39)
      refine lv_ldc (v := (-1000001)) hx hb hown (hts (.constant RX8 64 (-1000001)) ow_X8_march_64) dX8_march_39 ?_
      exact hret _ _ _ _ _ _ hw dX8_march_41 hF
    · skip
      have hF := hF.trans (if_neg c39)
      refine lv_iload_n hx hb dX8_march_17 rfl (lv_at hl 3 rfl) ?_
      refine lv_iconst (v := 1) hx hb dX8_march_18 (by decide) ?_
      refine lv_bipush (v := 6) hx hb dX8_march_19 (by decide) ?_
      have hs40 : g_X8_in v a3 1 6 ≠ none := fun q => hs (hF.trans (kb_n q _))
      refine km_cS (As := [.int a3, .int 1, .int 6]) (rest := []) (n := 3) ⟨hx, hb, hml, hown, hts⟩ (d_X8_in l E Z v a3 1 6 hs40) gX8_march_X8_in rfl hV_X8_in ⟨Nat.le_of_ble_eq_true rfl, Nat.le_of_ble_eq_true rfl⟩ hK hw rfl hl.1 rfl (Nat.le_of_ble_eq_true rfl) dX8_march_21 rfl rfl (fun r41 v42 H locs hp hw => ?_)
      obtain ⟨hp, hzr41⟩ := hp
      obtain ⟨hp, rfl⟩ := hp
      have hF := hF.trans (kb_some hp _)
      refine lv_if_eq (tgt := 39) hx hb dX8_march_24 (by decide) (fun c43 => ?_) (fun c43 => ?_)
      · skip
        have hF := hF.trans (if_pos c43)
        refine lv_ldc (v := (-1000001)) hx hb hown (hts (.constant RX8 64 (-1000001)) ow_X8_march_64) dX8_march_39 ?_
        exact hret _ _ _ _ _ _ hw dX8_march_41 hF
      · skip
        have hF := hF.trans (if_neg c43)
        refine lv_iload hx hb dX8_march_27 (lv_at hl 4 rfl) ?_
        refine lv_iconst (v := (-1)) hx hb dX8_march_29 (by decide) ?_
        refine lv_iload_n hx hb dX8_march_30 rfl (lv_at hl 3 rfl) ?_
        refine lv_iconst (v := 1) hx hb dX8_march_31 (by decide) ?_
        refine lv_isub hx hb dX8_march_32 ?_
        have hs44 : g_X8_in v a4 ((-1)) (a3 - 1) ≠ none := fun q => hs (hF.trans (kb_n q _))
        refine km_cS (As := [.int a4, .int ((-1)), .int (a3 - 1)]) (rest := []) (n := 3) ⟨hx, hb, hml, hown, hts⟩ (d_X8_in l E Z v a4 ((-1)) (a3 - 1) hs44) gX8_march_X8_in rfl hV_X8_in ⟨Nat.le_of_ble_eq_true rfl, Nat.le_of_ble_eq_true rfl⟩ hK hw rfl hl.1 rfl (Nat.le_of_ble_eq_true rfl) dX8_march_33 rfl rfl (fun r45 v46 H locs hp hw => ?_)
        obtain ⟨hp, hzr45⟩ := hp
        obtain ⟨hp, rfl⟩ := hp
        have hF := hF.trans (kb_some hp _)
        refine lv_if_ne (tgt := 42) hx hb dX8_march_36 (by decide) (fun c47 => ?_) (fun c47 => ?_)
        · skip
          have hF := hF.trans (if_neg c47)
          refine lv_aload_n hx hb dX8_march_42 rfl (lv_at hl 0 rfl) ?_
          refine lv_iload_n hx hb dX8_march_43 rfl (lv_at hl 1 rfl) ?_
          have hs48 : g_X8_isMissing v a1 ≠ none := fun q => hs (hF.trans (kb_n q _))
          refine km_cI (As := [.int a1]) (rest := []) (n := 1) (q := (RX8, TX8, 23)) (ci := 8) (t := 30) (i := 0) ⟨hx, hb, hml, hown, hts⟩ (d_X8_isMissing l E Z v a1 hs48) gX8_march_X8_isMissing rfl hV_X8_isMissing ⟨Nat.le_of_ble_eq_true rfl, Nat.le_of_ble_eq_true rfl⟩ hK hw (by decide) (by decide) rfl rfl rfl hl.1 rfl (Nat.le_of_ble_eq_true rfl) dX8_march_44 rfl rfl (fun r49 v50 H locs hp hw => ?_)
          obtain ⟨hp, hzr49⟩ := hp
          obtain ⟨hp, rfl⟩ := hp
          have hF := hF.trans (kb_some hp _)
          refine lv_if_eq (tgt := 56) hx hb dX8_march_47 (by decide) (fun c51 => ?_) (fun c51 => ?_)
          · skip
            have hF := hF.trans (if_pos c51)
            refine lv_aload_n hx hb dX8_march_56 rfl (lv_at hl 0 rfl) ?_
            refine lv_iload_n hx hb dX8_march_57 rfl (lv_at hl 1 rfl) ?_
            refine lv_iload_n hx hb dX8_march_58 rfl (lv_at hl 2 rfl) ?_
            refine lv_iload_n hx hb dX8_march_59 rfl (lv_at hl 3 rfl) ?_
            have hs52 : g_X8_isPart v a1 a2 a3 ≠ none := fun q => hs (hF.trans (kb_n q _))
            refine km_cI (As := [.int a1, .int a2, .int a3]) (rest := []) (n := 3) (q := (RX8, TX8, 23)) (ci := 8) (t := 30) (i := 0) ⟨hx, hb, hml, hown, hts⟩ (d_X8_isPart l E Z v a1 a2 a3 hs52) gX8_march_X8_isPart rfl hV_X8_isPart ⟨Nat.le_of_ble_eq_true rfl, Nat.le_of_ble_eq_true rfl⟩ hK hw (by decide) (by decide) rfl rfl rfl hl.1 rfl (Nat.le_of_ble_eq_true rfl) dX8_march_60 rfl rfl (fun r53 v54 H locs hp hw => ?_)
            obtain ⟨hp, hzr53⟩ := hp
            obtain ⟨hp, rfl⟩ := hp
            have hF := hF.trans (kb_some hp _)
            refine lv_if_ne (tgt := 72) hx hb dX8_march_63 (by decide) (fun c55 => ?_) (fun c55 => ?_)
            · skip
              have hF := hF.trans (if_neg c55)
              refine lv_iconst (v := (-1)) hx hb dX8_march_72 (by decide) ?_
              refine lv_istore (lv' := [(5, .int ((-1))), (0, .ref (Z.1 30 0)), (1, .int a1), (2, .int a2), (3, .int a3), (4, .int a4)]) hx hb dX8_march_73 hl (by decide) rfl (fun ls hl => ?_)
              refine lv_ldc (v := (-1000000)) hx hb hown (hts (.constant RX8 50 (-1000000)) ow_X8_march_50) dX8_march_75 ?_
              refine lv_istore (lv' := [(6, .int ((-1000000))), (5, .int ((-1))), (0, .ref (Z.1 30 0)), (1, .int a1), (2, .int a2), (3, .int a3), (4, .int a4)]) hx hb dX8_march_77 hl (by decide) rfl (fun ls hl => ?_)
              refine lv_iconst (v := 0) hx hb dX8_march_79 (by decide) ?_
              refine lv_istore (lv' := [(7, .int 0), (6, .int ((-1000000))), (5, .int ((-1))), (0, .ref (Z.1 30 0)), (1, .int a1), (2, .int a2), (3, .int a3), (4, .int a4)]) hx hb dX8_march_80 hl (by decide) rfl (fun ls hl => ?_)
              have hl := lv_sub (l' := [(0, .ref (Z.1 30 0)), (1, .int a1), (2, .int a2), (3, .int a3), (4, .int a4), (5, .int ((-1))), (6, .int ((-1000000))), (7, .int 0)]) hl [3, 4, 5, 6, 7, 2, 1, 0] rfl
              exact loop82 2000 v ((-1)) ((-1000000)) 0 _ _ _ hF hw hl
            · skip
              have hF := hF.trans (if_pos c55)
              refine lv_aload_n hx hb dX8_march_66 rfl (lv_at hl 0 rfl) ?_
              refine lv_iconst (v := 2) hx hb dX8_march_67 (by decide) ?_
              have hs56 : g_X8_found v 2 ≠ none := fun q => hs (hF.trans (kb2_n q _))
              refine km_cI (As := [.int 2]) (rest := []) (n := 1) (q := (RX8, TX8, 23)) (ci := 8) (t := 30) (i := 0) ⟨hx, hb, hml, hown, hts⟩ (d_X8_found l E Z v 2 hs56) gX8_march_X8_found rfl hV_X8_found ⟨Nat.le_of_ble_eq_true rfl, Nat.le_of_ble_eq_true rfl⟩ hK hw (by decide) (by decide) rfl rfl rfl hl.1 rfl (Nat.le_of_ble_eq_true rfl) dX8_march_68 rfl rfl (fun r57 v58 H locs hp hw => ?_)
              have hF := hF.trans (kb2_some hp _)
              exact hret _ _ _ _ _ _ hw dX8_march_71 hF
          · skip
            have hF := hF.trans (if_neg c51)
            refine lv_aload_n hx hb dX8_march_50 rfl (lv_at hl 0 rfl) ?_
            refine lv_iconst (v := 1) hx hb dX8_march_51 (by decide) ?_
            have hs59 : g_X8_found v 1 ≠ none := fun q => hs (hF.trans (kb2_n q _))
            refine km_cI (As := [.int 1]) (rest := []) (n := 1) (q := (RX8, TX8, 23)) (ci := 8) (t := 30) (i := 0) ⟨hx, hb, hml, hown, hts⟩ (d_X8_found l E Z v 1 hs59) gX8_march_X8_found rfl hV_X8_found ⟨Nat.le_of_ble_eq_true rfl, Nat.le_of_ble_eq_true rfl⟩ hK hw (by decide) (by decide) rfl rfl rfl hl.1 rfl (Nat.le_of_ble_eq_true rfl) dX8_march_52 rfl rfl (fun r60 v61 H locs hp hw => ?_)
            have hF := hF.trans (kb2_some hp _)
            exact hret _ _ _ _ _ _ hw dX8_march_55 hF
        · skip
          have hF := hF.trans (if_pos c47)
          refine lv_ldc (v := (-1000001)) hx hb hown (hts (.constant RX8 64 (-1000001)) ow_X8_march_64) dX8_march_39 ?_
          exact hret _ _ _ _ _ _ hw dX8_march_41 hF
  · skip
    have hF := hF.trans (if_pos c35)
    refine lv_ldc (v := (-1000002)) hx hb hown (hts (.constant RX8 183 (-1000002)) ow_X8_march_183) dX8_march_7 ?_
    exact hret _ _ _ _ _ _ hw dX8_march_9 hF
