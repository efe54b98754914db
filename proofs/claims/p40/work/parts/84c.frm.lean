set_option maxHeartbeats 4000000 in
theorem f_X8_found (v : Mm) (a1 : Int32) : pk (g_X8_found v a1) (fun z => FR [204] v z.2) := by
  have hF_v : FR [204] v v := FR.refl _ v
  unfold g_X8_found
  refine pk_let (fun v1 ev1 => ?_)
  have hF_v1 : FR [204] v v1 := by rw [ev1]; exact hF_v.upf (by decide)
  exact pk_some hF_v1
set_option maxHeartbeats 4000000 in
theorem f_X8_well (v : Mm) (a1 : Int32) : pk (g_X8_well v a1) (fun z => FR [204] v z.2) := by
  have hF_v : FR [204] v v := FR.refl _ v
  unfold g_X8_well
  refine pk_let (fun v1 ev1 => ?_)
  have hF_v1 : FR [204] v v1 := by rw [ev1]; exact hF_v.upf (by decide)
  exact pk_some hF_v1
set_option maxHeartbeats 4000000 in
theorem f_X8_copies_37_36 (v : Mm) (a1 : Int32) (a3 : Int32) : pk (g_X8_copies_37_36 v a1 a3) (fun z => FR [36] v z) := by
  have hF_v : FR [36] v v := FR.refl _ v
  have loop3 : ∀ (n3 : Nat) (w3 : Mm) (x4_3 : Int32), FR [36] v w3 → pk (g_X8_copies_37_36_L3  a1 a3 n3 w3 x4_3) (fun z => FR [36] v z) := by
    intro n3
    induction n3 with
    | zero => intro w3 x4_3 hF_w3 b9 e9; cases e9
    | succ n3 ih3 =>
      intro w3 x4_3 hF_w3
      show pk (b_X8_copies_37_36_L3  (g_X8_copies_37_36_L3  a1 a3 n3) a1 a3 w3 x4_3) _
      unfold b_X8_copies_37_36_L3
      refine pk_ite _ (fun c1 => ?_) (fun c1 => ?_)
      · skip
        exact pk_some hF_w3
      · skip
        refine pk_grd _ (fun _ => ?_)
        refine pk_grd _ (fun _ => ?_)
        refine pk_let (fun v4 ev4 => ?_)
        have hF_v4 : FR [36] v v4 := by rw [ev4]; exact hF_w3.upa (by decide) (by decide)
        exact ih3 v4 (x4_3 + 1) hF_v4
  unfold g_X8_copies_37_36
  exact loop3 2000 v 0 hF_v
set_option maxHeartbeats 4000000 in
theorem f_X8_copies_36_39 (v : Mm) (a1 : Int32) (a3 : Int32) : pk (g_X8_copies_36_39 v a1 a3) (fun z => FR [39] v z) := by
  have hF_v : FR [39] v v := FR.refl _ v
  have loop3 : ∀ (n3 : Nat) (w3 : Mm) (x4_3 : Int32), FR [39] v w3 → pk (g_X8_copies_36_39_L3  a1 a3 n3 w3 x4_3) (fun z => FR [39] v z) := by
    intro n3
    induction n3 with
    | zero => intro w3 x4_3 hF_w3 b9 e9; cases e9
    | succ n3 ih3 =>
      intro w3 x4_3 hF_w3
      show pk (b_X8_copies_36_39_L3  (g_X8_copies_36_39_L3  a1 a3 n3) a1 a3 w3 x4_3) _
      unfold b_X8_copies_36_39_L3
      refine pk_ite _ (fun c1 => ?_) (fun c1 => ?_)
      · skip
        exact pk_some hF_w3
      · skip
        refine pk_grd _ (fun _ => ?_)
        refine pk_grd _ (fun _ => ?_)
        refine pk_let (fun v4 ev4 => ?_)
        have hF_v4 : FR [39] v v4 := by rw [ev4]; exact hF_w3.upa (by decide) (by decide)
        exact ih3 v4 (x4_3 + 1) hF_v4
  unfold g_X8_copies_36_39
  exact loop3 2000 v 0 hF_v
set_option maxHeartbeats 4000000 in
theorem f_X8_copies_39_36 (v : Mm) (a1 : Int32) (a3 : Int32) : pk (g_X8_copies_39_36 v a1 a3) (fun z => FR [36] v z) := by
  have hF_v : FR [36] v v := FR.refl _ v
  have loop3 : ∀ (n3 : Nat) (w3 : Mm) (x4_3 : Int32), FR [36] v w3 → pk (g_X8_copies_39_36_L3  a1 a3 n3 w3 x4_3) (fun z => FR [36] v z) := by
    intro n3
    induction n3 with
    | zero => intro w3 x4_3 hF_w3 b9 e9; cases e9
    | succ n3 ih3 =>
      intro w3 x4_3 hF_w3
      show pk (b_X8_copies_39_36_L3  (g_X8_copies_39_36_L3  a1 a3 n3) a1 a3 w3 x4_3) _
      unfold b_X8_copies_39_36_L3
      refine pk_ite _ (fun c1 => ?_) (fun c1 => ?_)
      · skip
        exact pk_some hF_w3
      · skip
        refine pk_grd _ (fun _ => ?_)
        refine pk_grd _ (fun _ => ?_)
        refine pk_let (fun v4 ev4 => ?_)
        have hF_v4 : FR [36] v v4 := by rw [ev4]; exact hF_w3.upa (by decide) (by decide)
        exact ih3 v4 (x4_3 + 1) hF_v4
  unfold g_X8_copies_39_36
  exact loop3 2000 v 0 hF_v
set_option maxHeartbeats 4000000 in
theorem f_X8_copies_36_40 (v : Mm) (a1 : Int32) (a3 : Int32) : pk (g_X8_copies_36_40 v a1 a3) (fun z => FR [40] v z) := by
  have hF_v : FR [40] v v := FR.refl _ v
  have loop3 : ∀ (n3 : Nat) (w3 : Mm) (x4_3 : Int32), FR [40] v w3 → pk (g_X8_copies_36_40_L3  a1 a3 n3 w3 x4_3) (fun z => FR [40] v z) := by
    intro n3
    induction n3 with
    | zero => intro w3 x4_3 hF_w3 b9 e9; cases e9
    | succ n3 ih3 =>
      intro w3 x4_3 hF_w3
      show pk (b_X8_copies_36_40_L3  (g_X8_copies_36_40_L3  a1 a3 n3) a1 a3 w3 x4_3) _
      unfold b_X8_copies_36_40_L3
      refine pk_ite _ (fun c1 => ?_) (fun c1 => ?_)
      · skip
        exact pk_some hF_w3
      · skip
        refine pk_grd _ (fun _ => ?_)
        refine pk_grd _ (fun _ => ?_)
        refine pk_let (fun v4 ev4 => ?_)
        have hF_v4 : FR [40] v v4 := by rw [ev4]; exact hF_w3.upa (by decide) (by decide)
        exact ih3 v4 (x4_3 + 1) hF_v4
  unfold g_X8_copies_36_40
  exact loop3 2000 v 0 hF_v
set_option maxHeartbeats 4000000 in
theorem f_X8_copies_40_36 (v : Mm) (a1 : Int32) (a3 : Int32) : pk (g_X8_copies_40_36 v a1 a3) (fun z => FR [36] v z) := by
  have hF_v : FR [36] v v := FR.refl _ v
  have loop3 : ∀ (n3 : Nat) (w3 : Mm) (x4_3 : Int32), FR [36] v w3 → pk (g_X8_copies_40_36_L3  a1 a3 n3 w3 x4_3) (fun z => FR [36] v z) := by
    intro n3
    induction n3 with
    | zero => intro w3 x4_3 hF_w3 b9 e9; cases e9
    | succ n3 ih3 =>
      intro w3 x4_3 hF_w3
      show pk (b_X8_copies_40_36_L3  (g_X8_copies_40_36_L3  a1 a3 n3) a1 a3 w3 x4_3) _
      unfold b_X8_copies_40_36_L3
      refine pk_ite _ (fun c1 => ?_) (fun c1 => ?_)
      · skip
        exact pk_some hF_w3
      · skip
        refine pk_grd _ (fun _ => ?_)
        refine pk_grd _ (fun _ => ?_)
        refine pk_let (fun v4 ev4 => ?_)
        have hF_v4 : FR [36] v v4 := by rw [ev4]; exact hF_w3.upa (by decide) (by decide)
        exact ih3 v4 (x4_3 + 1) hF_v4
  unfold g_X8_copies_40_36
  exact loop3 2000 v 0 hF_v
set_option maxHeartbeats 4000000 in
theorem f_X8_copies_36_38 (v : Mm) (a1 : Int32) (a3 : Int32) : pk (g_X8_copies_36_38 v a1 a3) (fun z => FR [38] v z) := by
  have hF_v : FR [38] v v := FR.refl _ v
  have loop3 : ∀ (n3 : Nat) (w3 : Mm) (x4_3 : Int32), FR [38] v w3 → pk (g_X8_copies_36_38_L3  a1 a3 n3 w3 x4_3) (fun z => FR [38] v z) := by
    intro n3
    induction n3 with
    | zero => intro w3 x4_3 hF_w3 b9 e9; cases e9
    | succ n3 ih3 =>
      intro w3 x4_3 hF_w3
      show pk (b_X8_copies_36_38_L3  (g_X8_copies_36_38_L3  a1 a3 n3) a1 a3 w3 x4_3) _
      unfold b_X8_copies_36_38_L3
      refine pk_ite _ (fun c1 => ?_) (fun c1 => ?_)
      · skip
        exact pk_some hF_w3
      · skip
        refine pk_grd _ (fun _ => ?_)
        refine pk_grd _ (fun _ => ?_)
        refine pk_let (fun v4 ev4 => ?_)
        have hF_v4 : FR [38] v v4 := by rw [ev4]; exact hF_w3.upa (by decide) (by decide)
        exact ih3 v4 (x4_3 + 1) hF_v4
  unfold g_X8_copies_36_38
  exact loop3 2000 v 0 hF_v
set_option maxHeartbeats 4000000 in
theorem f_X8_row (v : Mm) (a1 : Int32) (a2 : Int32) (a3 : Int32) : pk (g_X8_row v a1 a2 a3) (fun z => FR [31, 32, 33, 204] v z.2) := by
  have hF_v : FR [31, 32, 33, 204] v v := FR.refl _ v
  have loop52 : ∀ (n52 : Nat) (w52 : Mm) (x4_52 : Int32), FR [31, 32, 33, 204] v w52 → pk (g_X8_row_L52  a1 a2 a3 n52 w52 x4_52) (fun z => FR [31, 32, 33, 204] v z.2) := by
    intro n52
    induction n52 with
    | zero => intro w52 x4_52 hF_w52 b9 e9; cases e9
    | succ n52 ih52 =>
      intro w52 x4_52 hF_w52
      show pk (b_X8_row_L52  (g_X8_row_L52  a1 a2 a3 n52) a1 a2 a3 w52 x4_52) _
      unfold b_X8_row_L52
      refine pk_ite _ (fun c1 => ?_) (fun c1 => ?_)
      · skip
        refine pk_kb2 (f_X8_well w52 a3) (fun r3 v4 hv4 => ?_)
        have hF_v4 := hF_w52.tr hv4 (by decide)
        exact pk_some hF_v4
      · skip
        refine pk_grd _ (fun _ => ?_)
        refine pk_let (fun v6 ev6 => ?_)
        have hF_v6 : FR [31, 32, 33, 204] v v6 := by rw [ev6]; exact hF_w52.upa (by decide) (by decide)
        exact ih52 v6 (x4_52 + 1) hF_v6
  unfold g_X8_row
  refine pk_bind0 (fun r8 => ?_)
  refine pk_ite _ (fun c10 => ?_) (fun c10 => ?_)
  · skip
    exact pk_some hF_v
  · skip
    refine pk_bind0 (fun r12 => ?_)
    refine pk_ite _ (fun c14 => ?_) (fun c14 => ?_)
    · skip
      exact pk_some hF_v
    · skip
      refine pk_ite _ (fun c15 => ?_) (fun c15 => ?_)
      · skip
        refine pk_ite _ (fun c16 => ?_) (fun c16 => ?_)
        · skip
          refine pk_grd _ (fun _ => ?_)
          refine pk_let (fun v18 ev18 => ?_)
          have hF_v18 : FR [31, 32, 33, 204] v v18 := by rw [ev18]; exact hF_v.upa (by decide) (by decide)
          refine pk_grd _ (fun _ => ?_)
          refine pk_let (fun v20 ev20 => ?_)
          have hF_v20 : FR [31, 32, 33, 204] v v20 := by rw [ev20]; exact hF_v18.upa (by decide) (by decide)
          exact loop52 2000 v20 0 hF_v20
        · skip
          refine pk_kb2 (f_X8_found v 4) (fun r22 v23 hv23 => ?_)
          have hF_v23 := hF_v.tr hv23 (by decide)
          exact pk_some hF_v23
      · skip
        exact pk_some hF_v
set_option maxHeartbeats 4000000 in
theorem f_X8_set (v : Mm) (a1 : Int32) (a2 : Int32) (a3 : Int32) : pk (g_X8_set v a1 a2 a3) (fun z => FR [33, 204] v z.2) := by
  have hF_v : FR [33, 204] v v := FR.refl _ v
  unfold g_X8_set
  refine pk_bind0 (fun r2 => ?_)
  refine pk_ite _ (fun c4 => ?_) (fun c4 => ?_)
  · skip
    exact pk_some hF_v
  · skip
    refine pk_bind0 (fun r6 => ?_)
    refine pk_ite _ (fun c8 => ?_) (fun c8 => ?_)
    · skip
      refine pk_grd _ (fun _ => ?_)
      refine pk_bind0 (fun r11 => ?_)
      refine pk_ite _ (fun c13 => ?_) (fun c13 => ?_)
      · skip
        refine pk_kb2 (f_X8_found v 2) (fun r15 v16 hv16 => ?_)
        have hF_v16 := hF_v.tr hv16 (by decide)
        exact pk_some hF_v16
      · skip
        refine pk_grd _ (fun _ => ?_)
        refine pk_bind0 (fun r19 => ?_)
        refine pk_grd _ (fun _ => ?_)
        refine pk_let (fun v22 ev22 => ?_)
        have hF_v22 : FR [33, 204] v v22 := by rw [ev22]; exact hF_v.upa (by decide) (by decide)
        refine pk_grd _ (fun _ => ?_)
        refine pk_kb2 (f_X8_well v22 (v22 33 0 (Int32.toNatClampNeg (((40 : Int32) * a1) + a2)))) (fun r25 v26 hv26 => ?_)
        have hF_v26 := hF_v22.tr hv26 (by decide)
        exact pk_some hF_v26
    · skip
      refine pk_kb2 (f_X8_found v 1) (fun r28 v29 hv29 => ?_)
      have hF_v29 := hF_v.tr hv29 (by decide)
      exact pk_some hF_v29
set_option maxHeartbeats 4000000 in
theorem f_X8_copy (v : Mm) (a1 : Int32) (a2 : Int32) (a3 : Int32) (a4 : Int32) (a5 : Int32) : pk (g_X8_copy v a1 a2 a3 a4 a5) (fun z => FR [33, 34, 204] v z.2) := by
  have hF_v : FR [33, 34, 204] v v := FR.refl _ v
  have loop129 : ∀ (n129 : Nat) (w129 : Mm) (x6_129 : Int32), FR [33, 34, 204] v w129 → pk (g_X8_copy_L129  a1 a2 a3 a4 a5 n129 w129 x6_129) (fun z => FR [33, 34, 204] v z.2) := by
    intro n129
    induction n129 with
    | zero => intro w129 x6_129 hF_w129 b9 e9; cases e9
    | succ n129 ih129 =>
      intro w129 x6_129 hF_w129
      show pk (b_X8_copy_L129  (g_X8_copy_L129  a1 a2 a3 a4 a5 n129) a1 a2 a3 a4 a5 w129 x6_129) _
      unfold b_X8_copy_L129
      refine pk_ite _ (fun c1 => ?_) (fun c1 => ?_)
      · skip
        refine pk_kb2 (f_X8_well w129 a5) (fun r3 v4 hv4 => ?_)
        have hF_v4 := hF_w129.tr hv4 (by decide)
        exact pk_some hF_v4
      · skip
        refine pk_grd _ (fun _ => ?_)
        refine pk_grd _ (fun _ => ?_)
        refine pk_let (fun v7 ev7 => ?_)
        have hF_v7 : FR [33, 34, 204] v v7 := by rw [ev7]; exact hF_w129.upa (by decide) (by decide)
        exact ih129 v7 (x6_129 + 1) hF_v7
  have loop92 : ∀ (n92 : Nat) (w92 : Mm) (x6_92 : Int32), FR [33, 34, 204] v w92 → pk (g_X8_copy_L92  a1 a2 a3 a4 a5 n92 w92 x6_92) (fun z => FR [33, 34, 204] v z.2) := by
    intro n92
    induction n92 with
    | zero => intro w92 x6_92 hF_w92 b9 e9; cases e9
    | succ n92 ih92 =>
      intro w92 x6_92 hF_w92
      show pk (b_X8_copy_L92  (g_X8_copy_L92  a1 a2 a3 a4 a5 n92) a1 a2 a3 a4 a5 w92 x6_92) _
      unfold b_X8_copy_L92
      refine pk_ite _ (fun c8 => ?_) (fun c8 => ?_)
      · skip
        exact loop129 2000 w92 0 hF_w92
      · skip
        refine pk_grd _ (fun _ => ?_)
        refine pk_grd _ (fun _ => ?_)
        refine pk_let (fun v11 ev11 => ?_)
        have hF_v11 : FR [33, 34, 204] v v11 := by rw [ev11]; exact hF_w92.upa (by decide) (by decide)
        exact ih92 v11 (x6_92 + 1) hF_v11
  unfold g_X8_copy
  refine pk_bind0 (fun r13 => ?_)
  refine pk_ite _ (fun c15 => ?_) (fun c15 => ?_)
  · skip
    exact pk_some hF_v
  · skip
    refine pk_bind0 (fun r17 => ?_)
    refine pk_ite _ (fun c19 => ?_) (fun c19 => ?_)
    · skip
      exact pk_some hF_v
    · skip
      refine pk_bind0 (fun r21 => ?_)
      refine pk_ite _ (fun c23 => ?_) (fun c23 => ?_)
      · skip
        refine pk_bind0 (fun r25 => ?_)
        refine pk_ite _ (fun c27 => ?_) (fun c27 => ?_)
        · skip
          refine pk_grd _ (fun _ => ?_)
          refine pk_grd _ (fun _ => ?_)
          refine pk_ite _ (fun c30 => ?_) (fun c30 => ?_)
          · skip
            refine pk_bind0 (fun r32 => ?_)
            refine pk_ite _ (fun c34 => ?_) (fun c34 => ?_)
            · skip
              refine pk_kb2 (f_X8_found v 2) (fun r36 v37 hv37 => ?_)
              have hF_v37 := hF_v.tr hv37 (by decide)
              exact pk_some hF_v37
            · skip
              refine pk_bind0 (fun r39 => ?_)
              refine pk_ite _ (fun c41 => ?_) (fun c41 => ?_)
              · skip
                refine pk_kb2 (f_X8_found v 2) (fun r43 v44 hv44 => ?_)
                have hF_v44 := hF_v.tr hv44 (by decide)
                exact pk_some hF_v44
              · skip
                exact loop92 2000 v 0 hF_v
          · skip
            refine pk_kb2 (f_X8_found v 5) (fun r46 v47 hv47 => ?_)
            have hF_v47 := hF_v.tr hv47 (by decide)
            exact pk_some hF_v47
        · skip
          refine pk_kb2 (f_X8_found v 1) (fun r49 v50 hv50 => ?_)
          have hF_v50 := hF_v.tr hv50 (by decide)
          exact pk_some hF_v50
      · skip
        refine pk_kb2 (f_X8_found v 1) (fun r52 v53 hv53 => ?_)
        have hF_v53 := hF_v.tr hv53 (by decide)
        exact pk_some hF_v53
set_option maxHeartbeats 4000000 in
theorem f_X8_drop (v : Mm) (a1 : Int32) : pk (g_X8_drop v a1) (fun z => FR [31, 204] v z.2) := by
  have hF_v : FR [31, 204] v v := FR.refl _ v
  unfold g_X8_drop
  refine pk_bind0 (fun r2 => ?_)
  refine pk_ite _ (fun c4 => ?_) (fun c4 => ?_)
  · skip
    exact pk_some hF_v
  · skip
    refine pk_bind0 (fun r6 => ?_)
    refine pk_ite _ (fun c8 => ?_) (fun c8 => ?_)
    · skip
      refine pk_grd _ (fun _ => ?_)
      refine pk_let (fun v10 ev10 => ?_)
      have hF_v10 : FR [31, 204] v v10 := by rw [ev10]; exact hF_v.upa (by decide) (by decide)
      refine pk_grd _ (fun _ => ?_)
      refine pk_kb2 (f_X8_well v10 (v10 32 0 (Int32.toNatClampNeg a1))) (fun r13 v14 hv14 => ?_)
      have hF_v14 := hF_v10.tr hv14 (by decide)
      exact pk_some hF_v14
    · skip
      refine pk_kb2 (f_X8_found v 1) (fun r16 v17 hv17 => ?_)
      have hF_v17 := hF_v.tr hv17 (by decide)
      exact pk_some hF_v17
set_option maxHeartbeats 4000000 in
theorem f_X8_feed (v : Mm) (a1 : Int32) : pk (g_X8_feed v a1) (fun z => FR [35, 206] v z.2) := by
  have hF_v : FR [35, 206] v v := FR.refl _ v
  unfold g_X8_feed
  refine pk_bind0 (fun r2 => ?_)
  refine pk_ite _ (fun c4 => ?_) (fun c4 => ?_)
  · skip
    exact pk_some hF_v
  · skip
    refine pk_ite _ (fun c5 => ?_) (fun c5 => ?_)
    · skip
      exact pk_some hF_v
    · skip
      refine pk_grd _ (fun _ => ?_)
      refine pk_let (fun v7 ev7 => ?_)
      have hF_v7 : FR [35, 206] v v7 := by rw [ev7]; exact hF_v.upa (by decide) (by decide)
      refine pk_let (fun v8 ev8 => ?_)
      have hF_v8 : FR [35, 206] v v8 := by rw [ev8]; exact hF_v7.upf (by decide)
      exact pk_some hF_v8
set_option maxHeartbeats 4000000 in
theorem f_X8_advances (v : Mm)  : pk (g_X8_advances v ) (fun z => FR [209, 210, 211, 212] v z) := by
  have hF_v : FR [209, 210, 211, 212] v v := FR.refl _ v
  have loop38 : ∀ (n38 : Nat) (w38 : Mm) (x1_38 : Int32), FR [209, 210, 211, 212] v w38 → pk (g_X8_advances_L38   n38 w38 x1_38) (fun z => FR [209, 210, 211, 212] v z) := by
    intro n38
    induction n38 with
    | zero => intro w38 x1_38 hF_w38 b9 e9; cases e9
    | succ n38 ih38 =>
      intro w38 x1_38 hF_w38
      show pk (b_X8_advances_L38  (g_X8_advances_L38   n38)  w38 x1_38) _
      unfold b_X8_advances_L38
      refine pk_bind0 (fun r2 => ?_)
      refine pk_bind0 (fun r5 => ?_)
      refine pk_ite _ (fun c7 => ?_) (fun c7 => ?_)
      · skip
        refine pk_ite _ (fun c8 => ?_) (fun c8 => ?_)
        · skip
          refine pk_let (fun v9 ev9 => ?_)
          have hF_v9 : FR [209, 210, 211, 212] v v9 := by rw [ev9]; exact hF_w38.upf (by decide)
          exact pk_some hF_v9
        · skip
          refine pk_let (fun v10 ev10 => ?_)
          have hF_v10 : FR [209, 210, 211, 212] v v10 := by rw [ev10]; exact hF_w38.upf (by decide)
          exact pk_some hF_v10
      · skip
        refine pk_ite _ (fun c11 => ?_) (fun c11 => ?_)
        · skip
          refine pk_let (fun v12 ev12 => ?_)
          have hF_v12 : FR [209, 210, 211, 212] v v12 := by rw [ev12]; exact hF_w38.upf (by decide)
          refine pk_let (fun v13 ev13 => ?_)
          have hF_v13 : FR [209, 210, 211, 212] v v13 := by rw [ev13]; exact hF_v12.upf (by decide)
          exact ih38 v13 x1_38 hF_v13
        · skip
          refine pk_bind0 (fun r15 => ?_)
          refine pk_let (fun v17 ev17 => ?_)
          have hF_v17 : FR [209, 210, 211, 212] v v17 := by rw [ev17]; exact hF_w38.upf (by decide)
          refine pk_let (fun v18 ev18 => ?_)
          have hF_v18 : FR [209, 210, 211, 212] v v18 := by rw [ev18]; exact hF_v17.upf (by decide)
          exact ih38 v18 x1_38 hF_v18
  unfold g_X8_advances
  refine pk_let (fun v19 ev19 => ?_)
  have hF_v19 : FR [209, 210, 211, 212] v v19 := by rw [ev19]; exact hF_v.upf (by decide)
  refine pk_bind0 (fun r21 => ?_)
  refine pk_let (fun v23 ev23 => ?_)
  have hF_v23 : FR [209, 210, 211, 212] v v23 := by rw [ev23]; exact hF_v19.upf (by decide)
  refine pk_bind0 (fun r25 => ?_)
  refine pk_ite _ (fun c27 => ?_) (fun c27 => ?_)
  · skip
    refine pk_ite _ (fun c28 => ?_) (fun c28 => ?_)
    · skip
      refine pk_bind0 (fun r30 => ?_)
      refine pk_ite _ (fun c32 => ?_) (fun c32 => ?_)
      · skip
        refine pk_ite _ (fun c33 => ?_) (fun c33 => ?_)
        · skip
          refine pk_let (fun v34 ev34 => ?_)
          have hF_v34 : FR [209, 210, 211, 212] v v34 := by rw [ev34]; exact hF_v23.upf (by decide)
          refine pk_ite _ (fun c35 => ?_) (fun c35 => ?_)
          · skip
            refine pk_let (fun v36 ev36 => ?_)
            have hF_v36 : FR [209, 210, 211, 212] v v36 := by rw [ev36]; exact hF_v34.upf (by decide)
            exact pk_some hF_v36
          · skip
            refine pk_let (fun v37 ev37 => ?_)
            have hF_v37 : FR [209, 210, 211, 212] v v37 := by rw [ev37]; exact hF_v34.upf (by decide)
            exact pk_some hF_v37
        · skip
          refine pk_ite _ (fun c38 => ?_) (fun c38 => ?_)
          · skip
            refine pk_let (fun v39 ev39 => ?_)
            have hF_v39 : FR [209, 210, 211, 212] v v39 := by rw [ev39]; exact hF_v23.upf (by decide)
            refine pk_ite _ (fun c40 => ?_) (fun c40 => ?_)
            · skip
              refine pk_let (fun v41 ev41 => ?_)
              have hF_v41 : FR [209, 210, 211, 212] v v41 := by rw [ev41]; exact hF_v39.upf (by decide)
              exact pk_some hF_v41
            · skip
              refine pk_let (fun v42 ev42 => ?_)
              have hF_v42 : FR [209, 210, 211, 212] v v42 := by rw [ev42]; exact hF_v39.upf (by decide)
              exact pk_some hF_v42
          · skip
            refine pk_let (fun v43 ev43 => ?_)
            have hF_v43 : FR [209, 210, 211, 212] v v43 := by rw [ev43]; exact hF_v23.upf (by decide)
            refine pk_ite _ (fun c44 => ?_) (fun c44 => ?_)
            · skip
              refine pk_let (fun v45 ev45 => ?_)
              have hF_v45 : FR [209, 210, 211, 212] v v45 := by rw [ev45]; exact hF_v43.upf (by decide)
              exact pk_some hF_v45
            · skip
              refine pk_let (fun v46 ev46 => ?_)
              have hF_v46 : FR [209, 210, 211, 212] v v46 := by rw [ev46]; exact hF_v43.upf (by decide)
              exact pk_some hF_v46
      · skip
        refine pk_let (fun v47 ev47 => ?_)
        have hF_v47 : FR [209, 210, 211, 212] v v47 := by rw [ev47]; exact hF_v23.upf (by decide)
        refine pk_ite _ (fun c48 => ?_) (fun c48 => ?_)
        · skip
          refine pk_let (fun v49 ev49 => ?_)
          have hF_v49 : FR [209, 210, 211, 212] v v49 := by rw [ev49]; exact hF_v47.upf (by decide)
          exact pk_some hF_v49
        · skip
          refine pk_let (fun v50 ev50 => ?_)
          have hF_v50 : FR [209, 210, 211, 212] v v50 := by rw [ev50]; exact hF_v47.upf (by decide)
          exact pk_some hF_v50
    · skip
      refine pk_let (fun v51 ev51 => ?_)
      have hF_v51 : FR [209, 210, 211, 212] v v51 := by rw [ev51]; exact hF_v23.upf (by decide)
      refine pk_ite _ (fun c52 => ?_) (fun c52 => ?_)
      · skip
        refine pk_let (fun v53 ev53 => ?_)
        have hF_v53 : FR [209, 210, 211, 212] v v53 := by rw [ev53]; exact hF_v51.upf (by decide)
        exact pk_some hF_v53
      · skip
        refine pk_let (fun v54 ev54 => ?_)
        have hF_v54 : FR [209, 210, 211, 212] v v54 := by rw [ev54]; exact hF_v51.upf (by decide)
        exact pk_some hF_v54
  · skip
    refine pk_let (fun v55 ev55 => ?_)
    have hF_v55 : FR [209, 210, 211, 212] v v55 := by rw [ev55]; exact hF_v23.upf (by decide)
    exact loop38 2000 v55 r21 hF_v55
set_option maxHeartbeats 4000000 in
theorem f_X8_takes (v : Mm) (a1 : Int32) (a2 : Int32) : pk (g_X8_takes v a1 a2) (fun z => FR [207, 208, 209, 210, 211, 212] v z.2) := by
  have hF_v : FR [207, 208, 209, 210, 211, 212] v v := FR.refl _ v
  unfold g_X8_takes
  refine pk_bind0 (fun r2 => ?_)
  refine pk_ite _ (fun c4 => ?_) (fun c4 => ?_)
  · skip
    exact pk_some hF_v
  · skip
    refine pk_ite _ (fun c5 => ?_) (fun c5 => ?_)
    · skip
      refine pk_let (fun v6 ev6 => ?_)
      have hF_v6 : FR [207, 208, 209, 210, 211, 212] v v6 := by rw [ev6]; exact hF_v.upf (by decide)
      refine pk_let (fun v7 ev7 => ?_)
      have hF_v7 : FR [207, 208, 209, 210, 211, 212] v v7 := by rw [ev7]; exact hF_v6.upf (by decide)
      exact pk_some hF_v7
    · skip
      refine pk_bind (f_X8_advances v ) (fun v10 hv10 => ?_)
      have hF_v10 := hF_v.tr hv10 (by decide)
      exact pk_some hF_v10
set_option maxHeartbeats 4000000 in
theorem f_X8_figure (v : Mm) (a1 : Int32) (a2 : Int32) : pk (g_X8_figure v a1 a2) (fun z => FR [207, 208, 209, 210, 211, 212] v z.2) := by
  have hF_v : FR [207, 208, 209, 210, 211, 212] v v := FR.refl _ v
  unfold g_X8_figure
  refine pk_bind0 (fun r2 => ?_)
  refine pk_ite _ (fun c4 => ?_) (fun c4 => ?_)
  · skip
    refine pk_bind0 (fun r6 => ?_)
    refine pk_kb2 (f_X8_takes v r6 2) (fun r9 v10 hv10 => ?_)
    have hF_v10 := hF_v.tr hv10 (by decide)
    exact pk_some hF_v10
  · skip
    refine pk_ite _ (fun c11 => ?_) (fun c11 => ?_)
    · skip
      refine pk_bind0 (fun r13 => ?_)
      refine pk_kb2 (f_X8_takes v r13 2) (fun r16 v17 hv17 => ?_)
      have hF_v17 := hF_v.tr hv17 (by decide)
      exact pk_some hF_v17
    · skip
      refine pk_kb2 (f_X8_takes v 0 1) (fun r19 v20 hv20 => ?_)
      have hF_v20 := hF_v.tr hv20 (by decide)
      exact pk_some hF_v20
set_option maxHeartbeats 4000000 in
theorem f_X8_follows (v : Mm) (a1 : Int32) (a2 : Int32) : pk (g_X8_follows v a1 a2) (fun z => FR [207, 208, 209, 210, 211, 212] v z.2) := by
  have hF_v : FR [207, 208, 209, 210, 211, 212] v v := FR.refl _ v
  unfold g_X8_follows
  refine pk_ite _ (fun c1 => ?_) (fun c1 => ?_)
  · skip
    refine pk_kb2 (f_X8_takes v 1 1) (fun r3 v4 hv4 => ?_)
    have hF_v4 := hF_v.tr hv4 (by decide)
    refine pk_kb2 (f_X8_figure v4 a1 a2) (fun r6 v7 hv7 => ?_)
    have hF_v7 := hF_v4.tr hv7 (by decide)
    exact pk_some hF_v7
  · skip
    refine pk_kb2 (f_X8_takes v 0 1) (fun r9 v10 hv10 => ?_)
    have hF_v10 := hF_v.tr hv10 (by decide)
    refine pk_kb2 (f_X8_figure v10 a1 a2) (fun r12 v13 hv13 => ?_)
    have hF_v13 := hF_v10.tr hv13 (by decide)
    exact pk_some hF_v13
set_option maxHeartbeats 4000000 in
theorem f_X8_letterOf (v : Mm)  : pk (g_X8_letterOf v ) (fun z => FR [207, 208, 209, 210, 211, 212] v z.2) := by
  have hF_v : FR [207, 208, 209, 210, 211, 212] v v := FR.refl _ v
  unfold g_X8_letterOf
  refine pk_ite _ (fun c1 => ?_) (fun c1 => ?_)
  · skip
    refine pk_kb2 (f_X8_takes v 1 1) (fun r3 v4 hv4 => ?_)
    have hF_v4 := hF_v.tr hv4 (by decide)
    exact pk_some hF_v4
  · skip
    refine pk_kb2 (f_X8_takes v 0 1) (fun r6 v7 hv7 => ?_)
    have hF_v7 := hF_v.tr hv7 (by decide)
    exact pk_some hF_v7
set_option maxHeartbeats 4000000 in
theorem f_X8_readsWord (v : Mm)  : pk (g_X8_readsWord v ) (fun z => FR [37, 207, 208, 209, 210, 211, 212] v z) := by
  have hF_v : FR [37, 207, 208, 209, 210, 211, 212] v v := FR.refl _ v
  have join131 : ∀ (w131 : Mm) (x1_131 : Int32) (x2_131 : Int32) (x3_131 : Int32) (x4_131 : Int32), FR [37, 207, 208, 209, 210, 211, 212] v w131 → pk (Option.bind (g_X8_isWell w131) (fun r2 => if r2 = 0 then (some w131) else (if x1_131 < 0 ∨ 65 ≤ Int32.toNatClampNeg x1_131 then none else (Option.bind (some (up3 w131 37 0 (Int32.toNatClampNeg x1_131) x2_131)) (fun v6 => if x1_131 + 1 < 0 ∨ 65 ≤ Int32.toNatClampNeg (x1_131 + 1) then none else (Option.bind (some (up3 v6 37 0 (Int32.toNatClampNeg (x1_131 + 1)) x3_131)) (fun v8 => if x1_131 + 2 < 0 ∨ 65 ≤ Int32.toNatClampNeg (x1_131 + 2) then none else (Option.bind (some (up3 v8 37 0 (Int32.toNatClampNeg (x1_131 + 2)) x4_131)) (fun v10 => Option.bind (some (up3 v10 37 0 (Int32.toNatClampNeg 3) ((v10 37 0 (Int32.toNatClampNeg 3)) + 1))) (fun v11 => some v11)))))))))) (fun z => FR [37, 207, 208, 209, 210, 211, 212] v z) := by
    intro w131 x1_131 x2_131 x3_131 x4_131 hF_w131
    refine pk_bind0 (fun r13 => ?_)
    refine pk_ite _ (fun c15 => ?_) (fun c15 => ?_)
    · skip
      exact pk_some hF_w131
    · skip
      refine pk_grd _ (fun _ => ?_)
      refine pk_let (fun v17 ev17 => ?_)
      have hF_v17 : FR [37, 207, 208, 209, 210, 211, 212] v v17 := by rw [ev17]; exact hF_w131.upa (by decide) (by decide)
      refine pk_grd _ (fun _ => ?_)
      refine pk_let (fun v19 ev19 => ?_)
      have hF_v19 : FR [37, 207, 208, 209, 210, 211, 212] v v19 := by rw [ev19]; exact hF_v17.upa (by decide) (by decide)
      refine pk_grd _ (fun _ => ?_)
      refine pk_let (fun v21 ev21 => ?_)
      have hF_v21 : FR [37, 207, 208, 209, 210, 211, 212] v v21 := by rw [ev21]; exact hF_v19.upa (by decide) (by decide)
      refine pk_let (fun v22 ev22 => ?_)
      have hF_v22 : FR [37, 207, 208, 209, 210, 211, 212] v v22 := by rw [ev22]; exact hF_v21.upa (by decide) (by decide)
      exact pk_some hF_v22
  have join112 : ∀ (w112 : Mm) (x1_112 : Int32) (x2_112 : Int32) (x3_112 : Int32) (x4_112 : Int32), FR [37, 207, 208, 209, 210, 211, 212] v w112 → pk (if w112 30 0 11 = 4 then (kb2 (g_X8_takes w112 1 1) (fun r25 v26 => Option.bind (g_X8_isWell v26) (fun r28 => if r28 = 0 then (some v26) else (if x1_112 < 0 ∨ 65 ≤ Int32.toNatClampNeg x1_112 then none else (Option.bind (some (up3 v26 37 0 (Int32.toNatClampNeg x1_112) x2_112)) (fun v32 => if x1_112 + 1 < 0 ∨ 65 ≤ Int32.toNatClampNeg (x1_112 + 1) then none else (Option.bind (some (up3 v32 37 0 (Int32.toNatClampNeg (x1_112 + 1)) x3_112)) (fun v34 => if x1_112 + 2 < 0 ∨ 65 ≤ Int32.toNatClampNeg (x1_112 + 2) then none else (Option.bind (some (up3 v34 37 0 (Int32.toNatClampNeg (x1_112 + 2)) x4_112)) (fun v36 => Option.bind (some (up3 v36 37 0 (Int32.toNatClampNeg 3) ((v36 37 0 (Int32.toNatClampNeg 3)) + 1))) (fun v37 => some v37))))))))))) else (kb2 (g_X8_takes w112 0 1) (fun r39 v40 => Option.bind (g_X8_isWell v40) (fun r42 => if r42 = 0 then (some v40) else (if x1_112 < 0 ∨ 65 ≤ Int32.toNatClampNeg x1_112 then none else (Option.bind (some (up3 v40 37 0 (Int32.toNatClampNeg x1_112) x2_112)) (fun v46 => if x1_112 + 1 < 0 ∨ 65 ≤ Int32.toNatClampNeg (x1_112 + 1) then none else (Option.bind (some (up3 v46 37 0 (Int32.toNatClampNeg (x1_112 + 1)) x3_112)) (fun v48 => if x1_112 + 2 < 0 ∨ 65 ≤ Int32.toNatClampNeg (x1_112 + 2) then none else (Option.bind (some (up3 v48 37 0 (Int32.toNatClampNeg (x1_112 + 2)) x4_112)) (fun v50 => Option.bind (some (up3 v50 37 0 (Int32.toNatClampNeg 3) ((v50 37 0 (Int32.toNatClampNeg 3)) + 1))) (fun v51 => some v51)))))))))))) (fun z => FR [37, 207, 208, 209, 210, 211, 212] v z) := by
    intro w112 x1_112 x2_112 x3_112 x4_112 hF_w112
    refine pk_ite _ (fun c52 => ?_) (fun c52 => ?_)
    · skip
      refine pk_kb2 (f_X8_takes w112 1 1) (fun r54 v55 hv55 => ?_)
      have hF_v55 := hF_w112.tr hv55 (by decide)
      exact join131 v55 x1_112 x2_112 x3_112 x4_112 hF_v55
    · skip
      refine pk_kb2 (f_X8_takes w112 0 1) (fun r57 v58 hv58 => ?_)
      have hF_v58 := hF_w112.tr hv58 (by decide)
      exact join131 v58 x1_112 x2_112 x3_112 x4_112 hF_v58
  have join81 : ∀ (w81 : Mm) (x1_81 : Int32) (x2_81 : Int32) (x3_81 : Int32), FR [37, 207, 208, 209, 210, 211, 212] v w81 → pk (Option.bind (g_X8_isTold w81 x2_81 x3_81 ((w81 30 0 12) - 97)) (fun r60 => if r60 = 0 then (kb2 (g_X8_takes w81 1 2) (fun r64 v65 => if v65 30 0 11 = 4 then (kb2 (g_X8_takes v65 1 1) (fun r68 v69 => Option.bind (g_X8_isWell v69) (fun r71 => if r71 = 0 then (some v69) else (if x1_81 < 0 ∨ 65 ≤ Int32.toNatClampNeg x1_81 then none else (Option.bind (some (up3 v69 37 0 (Int32.toNatClampNeg x1_81) x2_81)) (fun v75 => if x1_81 + 1 < 0 ∨ 65 ≤ Int32.toNatClampNeg (x1_81 + 1) then none else (Option.bind (some (up3 v75 37 0 (Int32.toNatClampNeg (x1_81 + 1)) x3_81)) (fun v77 => if x1_81 + 2 < 0 ∨ 65 ≤ Int32.toNatClampNeg (x1_81 + 2) then none else (Option.bind (some (up3 v77 37 0 (Int32.toNatClampNeg (x1_81 + 2)) (r64 - 97))) (fun v79 => Option.bind (some (up3 v79 37 0 (Int32.toNatClampNeg 3) ((v79 37 0 (Int32.toNatClampNeg 3)) + 1))) (fun v80 => some v80))))))))))) else (kb2 (g_X8_takes v65 0 1) (fun r82 v83 => Option.bind (g_X8_isWell v83) (fun r85 => if r85 = 0 then (some v83) else (if x1_81 < 0 ∨ 65 ≤ Int32.toNatClampNeg x1_81 then none else (Option.bind (some (up3 v83 37 0 (Int32.toNatClampNeg x1_81) x2_81)) (fun v89 => if x1_81 + 1 < 0 ∨ 65 ≤ Int32.toNatClampNeg (x1_81 + 1) then none else (Option.bind (some (up3 v89 37 0 (Int32.toNatClampNeg (x1_81 + 1)) x3_81)) (fun v91 => if x1_81 + 2 < 0 ∨ 65 ≤ Int32.toNatClampNeg (x1_81 + 2) then none else (Option.bind (some (up3 v91 37 0 (Int32.toNatClampNeg (x1_81 + 2)) (r64 - 97))) (fun v93 => Option.bind (some (up3 v93 37 0 (Int32.toNatClampNeg 3) ((v93 37 0 (Int32.toNatClampNeg 3)) + 1))) (fun v94 => some v94))))))))))))) else (kb2 (g_X8_takes w81 0 2) (fun r96 v97 => if v97 30 0 11 = 4 then (kb2 (g_X8_takes v97 1 1) (fun r100 v101 => Option.bind (g_X8_isWell v101) (fun r103 => if r103 = 0 then (some v101) else (if x1_81 < 0 ∨ 65 ≤ Int32.toNatClampNeg x1_81 then none else (Option.bind (some (up3 v101 37 0 (Int32.toNatClampNeg x1_81) x2_81)) (fun v107 => if x1_81 + 1 < 0 ∨ 65 ≤ Int32.toNatClampNeg (x1_81 + 1) then none else (Option.bind (some (up3 v107 37 0 (Int32.toNatClampNeg (x1_81 + 1)) x3_81)) (fun v109 => if x1_81 + 2 < 0 ∨ 65 ≤ Int32.toNatClampNeg (x1_81 + 2) then none else (Option.bind (some (up3 v109 37 0 (Int32.toNatClampNeg (x1_81 + 2)) (r96 - 97))) (fun v111 => Option.bind (some (up3 v111 37 0 (Int32.toNatClampNeg 3) ((v111 37 0 (Int32.toNatClampNeg 3)) + 1))) (fun v112 => some v112))))))))))) else (kb2 (g_X8_takes v97 0 1) (fun r114 v115 => Option.bind (g_X8_isWell v115) (fun r117 => if r117 = 0 then (some v115) else (if x1_81 < 0 ∨ 65 ≤ Int32.toNatClampNeg x1_81 then none else (Option.bind (some (up3 v115 37 0 (Int32.toNatClampNeg x1_81) x2_81)) (fun v121 => if x1_81 + 1 < 0 ∨ 65 ≤ Int32.toNatClampNeg (x1_81 + 1) then none else (Option.bind (some (up3 v121 37 0 (Int32.toNatClampNeg (x1_81 + 1)) x3_81)) (fun v123 => if x1_81 + 2 < 0 ∨ 65 ≤ Int32.toNatClampNeg (x1_81 + 2) then none else (Option.bind (some (up3 v123 37 0 (Int32.toNatClampNeg (x1_81 + 2)) (r96 - 97))) (fun v125 => Option.bind (some (up3 v125 37 0 (Int32.toNatClampNeg 3) ((v125 37 0 (Int32.toNatClampNeg 3)) + 1))) (fun v126 => some v126))))))))))))))) (fun z => FR [37, 207, 208, 209, 210, 211, 212] v z) := by
    intro w81 x1_81 x2_81 x3_81 hF_w81
    refine pk_bind0 (fun r128 => ?_)
    refine pk_ite _ (fun c130 => ?_) (fun c130 => ?_)
    · skip
      refine pk_kb2 (f_X8_takes w81 1 2) (fun r132 v133 hv133 => ?_)
      have hF_v133 := hF_w81.tr hv133 (by decide)
      exact join112 v133 x1_81 x2_81 x3_81 (r132 - 97) hF_v133
    · skip
      refine pk_kb2 (f_X8_takes w81 0 2) (fun r135 v136 hv136 => ?_)
      have hF_v136 := hF_w81.tr hv136 (by decide)
      exact join112 v136 x1_81 x2_81 x3_81 (r135 - 97) hF_v136
  have join49 : ∀ (w49 : Mm) (x1_49 : Int32), FR [37, 207, 208, 209, 210, 211, 212] v w49 → pk (kb2 (g_X8_letterOf w49) (fun r138 v139 => kb2 (g_X8_letterOf v139) (fun r141 v142 => Option.bind (g_X8_isWell v142) (fun r144 => if r144 = 0 then (Option.bind (g_X8_isTold v142 r138 r141 ((v142 30 0 12) - 97)) (fun r148 => if r148 = 0 then (kb2 (g_X8_takes v142 1 2) (fun r152 v153 => if v153 30 0 11 = 4 then (kb2 (g_X8_takes v153 1 1) (fun r156 v157 => Option.bind (g_X8_isWell v157) (fun r159 => if r159 = 0 then (some v157) else (if x1_49 < 0 ∨ 65 ≤ Int32.toNatClampNeg x1_49 then none else (Option.bind (some (up3 v157 37 0 (Int32.toNatClampNeg x1_49) r138)) (fun v163 => if x1_49 + 1 < 0 ∨ 65 ≤ Int32.toNatClampNeg (x1_49 + 1) then none else (Option.bind (some (up3 v163 37 0 (Int32.toNatClampNeg (x1_49 + 1)) r141)) (fun v165 => if x1_49 + 2 < 0 ∨ 65 ≤ Int32.toNatClampNeg (x1_49 + 2) then none else (Option.bind (some (up3 v165 37 0 (Int32.toNatClampNeg (x1_49 + 2)) (r152 - 97))) (fun v167 => Option.bind (some (up3 v167 37 0 (Int32.toNatClampNeg 3) ((v167 37 0 (Int32.toNatClampNeg 3)) + 1))) (fun v168 => some v168))))))))))) else (kb2 (g_X8_takes v153 0 1) (fun r170 v171 => Option.bind (g_X8_isWell v171) (fun r173 => if r173 = 0 then (some v171) else (if x1_49 < 0 ∨ 65 ≤ Int32.toNatClampNeg x1_49 then none else (Option.bind (some (up3 v171 37 0 (Int32.toNatClampNeg x1_49) r138)) (fun v177 => if x1_49 + 1 < 0 ∨ 65 ≤ Int32.toNatClampNeg (x1_49 + 1) then none else (Option.bind (some (up3 v177 37 0 (Int32.toNatClampNeg (x1_49 + 1)) r141)) (fun v179 => if x1_49 + 2 < 0 ∨ 65 ≤ Int32.toNatClampNeg (x1_49 + 2) then none else (Option.bind (some (up3 v179 37 0 (Int32.toNatClampNeg (x1_49 + 2)) (r152 - 97))) (fun v181 => Option.bind (some (up3 v181 37 0 (Int32.toNatClampNeg 3) ((v181 37 0 (Int32.toNatClampNeg 3)) + 1))) (fun v182 => some v182))))))))))))) else (kb2 (g_X8_takes v142 0 2) (fun r184 v185 => if v185 30 0 11 = 4 then (kb2 (g_X8_takes v185 1 1) (fun r188 v189 => Option.bind (g_X8_isWell v189) (fun r191 => if r191 = 0 then (some v189) else (if x1_49 < 0 ∨ 65 ≤ Int32.toNatClampNeg x1_49 then none else (Option.bind (some (up3 v189 37 0 (Int32.toNatClampNeg x1_49) r138)) (fun v195 => if x1_49 + 1 < 0 ∨ 65 ≤ Int32.toNatClampNeg (x1_49 + 1) then none else (Option.bind (some (up3 v195 37 0 (Int32.toNatClampNeg (x1_49 + 1)) r141)) (fun v197 => if x1_49 + 2 < 0 ∨ 65 ≤ Int32.toNatClampNeg (x1_49 + 2) then none else (Option.bind (some (up3 v197 37 0 (Int32.toNatClampNeg (x1_49 + 2)) (r184 - 97))) (fun v199 => Option.bind (some (up3 v199 37 0 (Int32.toNatClampNeg 3) ((v199 37 0 (Int32.toNatClampNeg 3)) + 1))) (fun v200 => some v200))))))))))) else (kb2 (g_X8_takes v185 0 1) (fun r202 v203 => Option.bind (g_X8_isWell v203) (fun r205 => if r205 = 0 then (some v203) else (if x1_49 < 0 ∨ 65 ≤ Int32.toNatClampNeg x1_49 then none else (Option.bind (some (up3 v203 37 0 (Int32.toNatClampNeg x1_49) r138)) (fun v209 => if x1_49 + 1 < 0 ∨ 65 ≤ Int32.toNatClampNeg (x1_49 + 1) then none else (Option.bind (some (up3 v209 37 0 (Int32.toNatClampNeg (x1_49 + 1)) r141)) (fun v211 => if x1_49 + 2 < 0 ∨ 65 ≤ Int32.toNatClampNeg (x1_49 + 2) then none else (Option.bind (some (up3 v211 37 0 (Int32.toNatClampNeg (x1_49 + 2)) (r184 - 97))) (fun v213 => Option.bind (some (up3 v213 37 0 (Int32.toNatClampNeg 3) ((v213 37 0 (Int32.toNatClampNeg 3)) + 1))) (fun v214 => some v214))))))))))))))) else (if v142 30 0 11 = 1 then (Option.bind (g_X8_isTold v142 r138 r141 ((v142 30 0 12) - 97)) (fun r217 => if r217 = 0 then (kb2 (g_X8_takes v142 1 2) (fun r221 v222 => if v222 30 0 11 = 4 then (kb2 (g_X8_takes v222 1 1) (fun r225 v226 => Option.bind (g_X8_isWell v226) (fun r228 => if r228 = 0 then (some v226) else (if x1_49 < 0 ∨ 65 ≤ Int32.toNatClampNeg x1_49 then none else (Option.bind (some (up3 v226 37 0 (Int32.toNatClampNeg x1_49) r138)) (fun v232 => if x1_49 + 1 < 0 ∨ 65 ≤ Int32.toNatClampNeg (x1_49 + 1) then none else (Option.bind (some (up3 v232 37 0 (Int32.toNatClampNeg (x1_49 + 1)) r141)) (fun v234 => if x1_49 + 2 < 0 ∨ 65 ≤ Int32.toNatClampNeg (x1_49 + 2) then none else (Option.bind (some (up3 v234 37 0 (Int32.toNatClampNeg (x1_49 + 2)) (r221 - 97))) (fun v236 => Option.bind (some (up3 v236 37 0 (Int32.toNatClampNeg 3) ((v236 37 0 (Int32.toNatClampNeg 3)) + 1))) (fun v237 => some v237))))))))))) else (kb2 (g_X8_takes v222 0 1) (fun r239 v240 => Option.bind (g_X8_isWell v240) (fun r242 => if r242 = 0 then (some v240) else (if x1_49 < 0 ∨ 65 ≤ Int32.toNatClampNeg x1_49 then none else (Option.bind (some (up3 v240 37 0 (Int32.toNatClampNeg x1_49) r138)) (fun v246 => if x1_49 + 1 < 0 ∨ 65 ≤ Int32.toNatClampNeg (x1_49 + 1) then none else (Option.bind (some (up3 v246 37 0 (Int32.toNatClampNeg (x1_49 + 1)) r141)) (fun v248 => if x1_49 + 2 < 0 ∨ 65 ≤ Int32.toNatClampNeg (x1_49 + 2) then none else (Option.bind (some (up3 v248 37 0 (Int32.toNatClampNeg (x1_49 + 2)) (r221 - 97))) (fun v250 => Option.bind (some (up3 v250 37 0 (Int32.toNatClampNeg 3) ((v250 37 0 (Int32.toNatClampNeg 3)) + 1))) (fun v251 => some v251))))))))))))) else (kb2 (g_X8_takes v142 0 2) (fun r253 v254 => if v254 30 0 11 = 4 then (kb2 (g_X8_takes v254 1 1) (fun r257 v258 => Option.bind (g_X8_isWell v258) (fun r260 => if r260 = 0 then (some v258) else (if x1_49 < 0 ∨ 65 ≤ Int32.toNatClampNeg x1_49 then none else (Option.bind (some (up3 v258 37 0 (Int32.toNatClampNeg x1_49) r138)) (fun v264 => if x1_49 + 1 < 0 ∨ 65 ≤ Int32.toNatClampNeg (x1_49 + 1) then none else (Option.bind (some (up3 v264 37 0 (Int32.toNatClampNeg (x1_49 + 1)) r141)) (fun v266 => if x1_49 + 2 < 0 ∨ 65 ≤ Int32.toNatClampNeg (x1_49 + 2) then none else (Option.bind (some (up3 v266 37 0 (Int32.toNatClampNeg (x1_49 + 2)) (r253 - 97))) (fun v268 => Option.bind (some (up3 v268 37 0 (Int32.toNatClampNeg 3) ((v268 37 0 (Int32.toNatClampNeg 3)) + 1))) (fun v269 => some v269))))))))))) else (kb2 (g_X8_takes v254 0 1) (fun r271 v272 => Option.bind (g_X8_isWell v272) (fun r274 => if r274 = 0 then (some v272) else (if x1_49 < 0 ∨ 65 ≤ Int32.toNatClampNeg x1_49 then none else (Option.bind (some (up3 v272 37 0 (Int32.toNatClampNeg x1_49) r138)) (fun v278 => if x1_49 + 1 < 0 ∨ 65 ≤ Int32.toNatClampNeg (x1_49 + 1) then none else (Option.bind (some (up3 v278 37 0 (Int32.toNatClampNeg (x1_49 + 1)) r141)) (fun v280 => if x1_49 + 2 < 0 ∨ 65 ≤ Int32.toNatClampNeg (x1_49 + 2) then none else (Option.bind (some (up3 v280 37 0 (Int32.toNatClampNeg (x1_49 + 2)) (r253 - 97))) (fun v282 => Option.bind (some (up3 v282 37 0 (Int32.toNatClampNeg 3) ((v282 37 0 (Int32.toNatClampNeg 3)) + 1))) (fun v283 => some v283))))))))))))))) else (kb2 (g_X8_takes v142 0 1) (fun r285 v286 => Option.bind (g_X8_isTold v286 r138 r141 ((v286 30 0 12) - 97)) (fun r288 => if r288 = 0 then (kb2 (g_X8_takes v286 1 2) (fun r292 v293 => if v293 30 0 11 = 4 then (kb2 (g_X8_takes v293 1 1) (fun r296 v297 => Option.bind (g_X8_isWell v297) (fun r299 => if r299 = 0 then (some v297) else (if x1_49 < 0 ∨ 65 ≤ Int32.toNatClampNeg x1_49 then none else (Option.bind (some (up3 v297 37 0 (Int32.toNatClampNeg x1_49) r138)) (fun v303 => if x1_49 + 1 < 0 ∨ 65 ≤ Int32.toNatClampNeg (x1_49 + 1) then none else (Option.bind (some (up3 v303 37 0 (Int32.toNatClampNeg (x1_49 + 1)) r141)) (fun v305 => if x1_49 + 2 < 0 ∨ 65 ≤ Int32.toNatClampNeg (x1_49 + 2) then none else (Option.bind (some (up3 v305 37 0 (Int32.toNatClampNeg (x1_49 + 2)) (r292 - 97))) (fun v307 => Option.bind (some (up3 v307 37 0 (Int32.toNatClampNeg 3) ((v307 37 0 (Int32.toNatClampNeg 3)) + 1))) (fun v308 => some v308))))))))))) else (kb2 (g_X8_takes v293 0 1) (fun r310 v311 => Option.bind (g_X8_isWell v311) (fun r313 => if r313 = 0 then (some v311) else (if x1_49 < 0 ∨ 65 ≤ Int32.toNatClampNeg x1_49 then none else (Option.bind (some (up3 v311 37 0 (Int32.toNatClampNeg x1_49) r138)) (fun v317 => if x1_49 + 1 < 0 ∨ 65 ≤ Int32.toNatClampNeg (x1_49 + 1) then none else (Option.bind (some (up3 v317 37 0 (Int32.toNatClampNeg (x1_49 + 1)) r141)) (fun v319 => if x1_49 + 2 < 0 ∨ 65 ≤ Int32.toNatClampNeg (x1_49 + 2) then none else (Option.bind (some (up3 v319 37 0 (Int32.toNatClampNeg (x1_49 + 2)) (r292 - 97))) (fun v321 => Option.bind (some (up3 v321 37 0 (Int32.toNatClampNeg 3) ((v321 37 0 (Int32.toNatClampNeg 3)) + 1))) (fun v322 => some v322))))))))))))) else (kb2 (g_X8_takes v286 0 2) (fun r324 v325 => if v325 30 0 11 = 4 then (kb2 (g_X8_takes v325 1 1) (fun r328 v329 => Option.bind (g_X8_isWell v329) (fun r331 => if r331 = 0 then (some v329) else (if x1_49 < 0 ∨ 65 ≤ Int32.toNatClampNeg x1_49 then none else (Option.bind (some (up3 v329 37 0 (Int32.toNatClampNeg x1_49) r138)) (fun v335 => if x1_49 + 1 < 0 ∨ 65 ≤ Int32.toNatClampNeg (x1_49 + 1) then none else (Option.bind (some (up3 v335 37 0 (Int32.toNatClampNeg (x1_49 + 1)) r141)) (fun v337 => if x1_49 + 2 < 0 ∨ 65 ≤ Int32.toNatClampNeg (x1_49 + 2) then none else (Option.bind (some (up3 v337 37 0 (Int32.toNatClampNeg (x1_49 + 2)) (r324 - 97))) (fun v339 => Option.bind (some (up3 v339 37 0 (Int32.toNatClampNeg 3) ((v339 37 0 (Int32.toNatClampNeg 3)) + 1))) (fun v340 => some v340))))))))))) else (kb2 (g_X8_takes v325 0 1) (fun r342 v343 => Option.bind (g_X8_isWell v343) (fun r345 => if r345 = 0 then (some v343) else (if x1_49 < 0 ∨ 65 ≤ Int32.toNatClampNeg x1_49 then none else (Option.bind (some (up3 v343 37 0 (Int32.toNatClampNeg x1_49) r138)) (fun v349 => if x1_49 + 1 < 0 ∨ 65 ≤ Int32.toNatClampNeg (x1_49 + 1) then none else (Option.bind (some (up3 v349 37 0 (Int32.toNatClampNeg (x1_49 + 1)) r141)) (fun v351 => if x1_49 + 2 < 0 ∨ 65 ≤ Int32.toNatClampNeg (x1_49 + 2) then none else (Option.bind (some (up3 v351 37 0 (Int32.toNatClampNeg (x1_49 + 2)) (r324 - 97))) (fun v353 => Option.bind (some (up3 v353 37 0 (Int32.toNatClampNeg 3) ((v353 37 0 (Int32.toNatClampNeg 3)) + 1))) (fun v354 => some v354))))))))))))))))))))) (fun z => FR [37, 207, 208, 209, 210, 211, 212] v z) := by
    intro w49 x1_49 hF_w49
    refine pk_kb2 (f_X8_letterOf w49 ) (fun r356 v357 hv357 => ?_)
    have hF_v357 := hF_w49.tr hv357 (by decide)
    refine pk_kb2 (f_X8_letterOf v357 ) (fun r359 v360 hv360 => ?_)
    have hF_v360 := hF_v357.tr hv360 (by decide)
    refine pk_bind0 (fun r362 => ?_)
    refine pk_ite _ (fun c364 => ?_) (fun c364 => ?_)
    · skip
      exact join81 v360 x1_49 r356 r359 hF_v360
    · skip
      refine pk_ite _ (fun c365 => ?_) (fun c365 => ?_)
      · skip
        exact join81 v360 x1_49 r356 r359 hF_v360
      · skip
        refine pk_kb2 (f_X8_takes v360 0 1) (fun r367 v368 hv368 => ?_)
        have hF_v368 := hF_v360.tr hv368 (by decide)
        exact join81 v368 x1_49 r356 r359 hF_v368
  have join22 : ∀ (w22 : Mm), FR [37, 207, 208, 209, 210, 211, 212] v w22 → pk (if 6 ≤ w22 37 0 (Int32.toNatClampNeg 3) then (kb2 (g_X8_letterOf w22) (fun r371 v372 => kb2 (g_X8_letterOf v372) (fun r374 v375 => Option.bind (g_X8_isWell v375) (fun r377 => if r377 = 0 then (Option.bind (g_X8_isTold v375 r371 r374 ((v375 30 0 12) - 97)) (fun r381 => if r381 = 0 then (kb2 (g_X8_takes v375 1 2) (fun r385 v386 => if v386 30 0 11 = 4 then (kb2 (g_X8_takes v386 1 1) (fun r389 v390 => Option.bind (g_X8_isWell v390) (fun r392 => if r392 = 0 then (some v390) else (if (8 : Int32) + ((3 : Int32) * 0) < 0 ∨ 65 ≤ Int32.toNatClampNeg ((8 : Int32) + ((3 : Int32) * 0)) then none else (Option.bind (some (up3 v390 37 0 (Int32.toNatClampNeg ((8 : Int32) + ((3 : Int32) * 0))) r371)) (fun v396 => if ((8 : Int32) + ((3 : Int32) * 0)) + 1 < 0 ∨ 65 ≤ Int32.toNatClampNeg (((8 : Int32) + ((3 : Int32) * 0)) + 1) then none else (Option.bind (some (up3 v396 37 0 (Int32.toNatClampNeg (((8 : Int32) + ((3 : Int32) * 0)) + 1)) r374)) (fun v398 => if ((8 : Int32) + ((3 : Int32) * 0)) + 2 < 0 ∨ 65 ≤ Int32.toNatClampNeg (((8 : Int32) + ((3 : Int32) * 0)) + 2) then none else (Option.bind (some (up3 v398 37 0 (Int32.toNatClampNeg (((8 : Int32) + ((3 : Int32) * 0)) + 2)) (r385 - 97))) (fun v400 => Option.bind (some (up3 v400 37 0 (Int32.toNatClampNeg 3) ((v400 37 0 (Int32.toNatClampNeg 3)) + 1))) (fun v401 => some v401))))))))))) else (kb2 (g_X8_takes v386 0 1) (fun r403 v404 => Option.bind (g_X8_isWell v404) (fun r406 => if r406 = 0 then (some v404) else (if (8 : Int32) + ((3 : Int32) * 0) < 0 ∨ 65 ≤ Int32.toNatClampNeg ((8 : Int32) + ((3 : Int32) * 0)) then none else (Option.bind (some (up3 v404 37 0 (Int32.toNatClampNeg ((8 : Int32) + ((3 : Int32) * 0))) r371)) (fun v410 => if ((8 : Int32) + ((3 : Int32) * 0)) + 1 < 0 ∨ 65 ≤ Int32.toNatClampNeg (((8 : Int32) + ((3 : Int32) * 0)) + 1) then none else (Option.bind (some (up3 v410 37 0 (Int32.toNatClampNeg (((8 : Int32) + ((3 : Int32) * 0)) + 1)) r374)) (fun v412 => if ((8 : Int32) + ((3 : Int32) * 0)) + 2 < 0 ∨ 65 ≤ Int32.toNatClampNeg (((8 : Int32) + ((3 : Int32) * 0)) + 2) then none else (Option.bind (some (up3 v412 37 0 (Int32.toNatClampNeg (((8 : Int32) + ((3 : Int32) * 0)) + 2)) (r385 - 97))) (fun v414 => Option.bind (some (up3 v414 37 0 (Int32.toNatClampNeg 3) ((v414 37 0 (Int32.toNatClampNeg 3)) + 1))) (fun v415 => some v415))))))))))))) else (kb2 (g_X8_takes v375 0 2) (fun r417 v418 => if v418 30 0 11 = 4 then (kb2 (g_X8_takes v418 1 1) (fun r421 v422 => Option.bind (g_X8_isWell v422) (fun r424 => if r424 = 0 then (some v422) else (if (8 : Int32) + ((3 : Int32) * 0) < 0 ∨ 65 ≤ Int32.toNatClampNeg ((8 : Int32) + ((3 : Int32) * 0)) then none else (Option.bind (some (up3 v422 37 0 (Int32.toNatClampNeg ((8 : Int32) + ((3 : Int32) * 0))) r371)) (fun v428 => if ((8 : Int32) + ((3 : Int32) * 0)) + 1 < 0 ∨ 65 ≤ Int32.toNatClampNeg (((8 : Int32) + ((3 : Int32) * 0)) + 1) then none else (Option.bind (some (up3 v428 37 0 (Int32.toNatClampNeg (((8 : Int32) + ((3 : Int32) * 0)) + 1)) r374)) (fun v430 => if ((8 : Int32) + ((3 : Int32) * 0)) + 2 < 0 ∨ 65 ≤ Int32.toNatClampNeg (((8 : Int32) + ((3 : Int32) * 0)) + 2) then none else (Option.bind (some (up3 v430 37 0 (Int32.toNatClampNeg (((8 : Int32) + ((3 : Int32) * 0)) + 2)) (r417 - 97))) (fun v432 => Option.bind (some (up3 v432 37 0 (Int32.toNatClampNeg 3) ((v432 37 0 (Int32.toNatClampNeg 3)) + 1))) (fun v433 => some v433))))))))))) else (kb2 (g_X8_takes v418 0 1) (fun r435 v436 => Option.bind (g_X8_isWell v436) (fun r438 => if r438 = 0 then (some v436) else (if (8 : Int32) + ((3 : Int32) * 0) < 0 ∨ 65 ≤ Int32.toNatClampNeg ((8 : Int32) + ((3 : Int32) * 0)) then none else (Option.bind (some (up3 v436 37 0 (Int32.toNatClampNeg ((8 : Int32) + ((3 : Int32) * 0))) r371)) (fun v442 => if ((8 : Int32) + ((3 : Int32) * 0)) + 1 < 0 ∨ 65 ≤ Int32.toNatClampNeg (((8 : Int32) + ((3 : Int32) * 0)) + 1) then none else (Option.bind (some (up3 v442 37 0 (Int32.toNatClampNeg (((8 : Int32) + ((3 : Int32) * 0)) + 1)) r374)) (fun v444 => if ((8 : Int32) + ((3 : Int32) * 0)) + 2 < 0 ∨ 65 ≤ Int32.toNatClampNeg (((8 : Int32) + ((3 : Int32) * 0)) + 2) then none else (Option.bind (some (up3 v444 37 0 (Int32.toNatClampNeg (((8 : Int32) + ((3 : Int32) * 0)) + 2)) (r417 - 97))) (fun v446 => Option.bind (some (up3 v446 37 0 (Int32.toNatClampNeg 3) ((v446 37 0 (Int32.toNatClampNeg 3)) + 1))) (fun v447 => some v447))))))))))))))) else (if v375 30 0 11 = 1 then (Option.bind (g_X8_isTold v375 r371 r374 ((v375 30 0 12) - 97)) (fun r450 => if r450 = 0 then (kb2 (g_X8_takes v375 1 2) (fun r454 v455 => if v455 30 0 11 = 4 then (kb2 (g_X8_takes v455 1 1) (fun r458 v459 => Option.bind (g_X8_isWell v459) (fun r461 => if r461 = 0 then (some v459) else (if (8 : Int32) + ((3 : Int32) * 0) < 0 ∨ 65 ≤ Int32.toNatClampNeg ((8 : Int32) + ((3 : Int32) * 0)) then none else (Option.bind (some (up3 v459 37 0 (Int32.toNatClampNeg ((8 : Int32) + ((3 : Int32) * 0))) r371)) (fun v465 => if ((8 : Int32) + ((3 : Int32) * 0)) + 1 < 0 ∨ 65 ≤ Int32.toNatClampNeg (((8 : Int32) + ((3 : Int32) * 0)) + 1) then none else (Option.bind (some (up3 v465 37 0 (Int32.toNatClampNeg (((8 : Int32) + ((3 : Int32) * 0)) + 1)) r374)) (fun v467 => if ((8 : Int32) + ((3 : Int32) * 0)) + 2 < 0 ∨ 65 ≤ Int32.toNatClampNeg (((8 : Int32) + ((3 : Int32) * 0)) + 2) then none else (Option.bind (some (up3 v467 37 0 (Int32.toNatClampNeg (((8 : Int32) + ((3 : Int32) * 0)) + 2)) (r454 - 97))) (fun v469 => Option.bind (some (up3 v469 37 0 (Int32.toNatClampNeg 3) ((v469 37 0 (Int32.toNatClampNeg 3)) + 1))) (fun v470 => some v470))))))))))) else (kb2 (g_X8_takes v455 0 1) (fun r472 v473 => Option.bind (g_X8_isWell v473) (fun r475 => if r475 = 0 then (some v473) else (if (8 : Int32) + ((3 : Int32) * 0) < 0 ∨ 65 ≤ Int32.toNatClampNeg ((8 : Int32) + ((3 : Int32) * 0)) then none else (Option.bind (some (up3 v473 37 0 (Int32.toNatClampNeg ((8 : Int32) + ((3 : Int32) * 0))) r371)) (fun v479 => if ((8 : Int32) + ((3 : Int32) * 0)) + 1 < 0 ∨ 65 ≤ Int32.toNatClampNeg (((8 : Int32) + ((3 : Int32) * 0)) + 1) then none else (Option.bind (some (up3 v479 37 0 (Int32.toNatClampNeg (((8 : Int32) + ((3 : Int32) * 0)) + 1)) r374)) (fun v481 => if ((8 : Int32) + ((3 : Int32) * 0)) + 2 < 0 ∨ 65 ≤ Int32.toNatClampNeg (((8 : Int32) + ((3 : Int32) * 0)) + 2) then none else (Option.bind (some (up3 v481 37 0 (Int32.toNatClampNeg (((8 : Int32) + ((3 : Int32) * 0)) + 2)) (r454 - 97))) (fun v483 => Option.bind (some (up3 v483 37 0 (Int32.toNatClampNeg 3) ((v483 37 0 (Int32.toNatClampNeg 3)) + 1))) (fun v484 => some v484))))))))))))) else (kb2 (g_X8_takes v375 0 2) (fun r486 v487 => if v487 30 0 11 = 4 then (kb2 (g_X8_takes v487 1 1) (fun r490 v491 => Option.bind (g_X8_isWell v491) (fun r493 => if r493 = 0 then (some v491) else (if (8 : Int32) + ((3 : Int32) * 0) < 0 ∨ 65 ≤ Int32.toNatClampNeg ((8 : Int32) + ((3 : Int32) * 0)) then none else (Option.bind (some (up3 v491 37 0 (Int32.toNatClampNeg ((8 : Int32) + ((3 : Int32) * 0))) r371)) (fun v497 => if ((8 : Int32) + ((3 : Int32) * 0)) + 1 < 0 ∨ 65 ≤ Int32.toNatClampNeg (((8 : Int32) + ((3 : Int32) * 0)) + 1) then none else (Option.bind (some (up3 v497 37 0 (Int32.toNatClampNeg (((8 : Int32) + ((3 : Int32) * 0)) + 1)) r374)) (fun v499 => if ((8 : Int32) + ((3 : Int32) * 0)) + 2 < 0 ∨ 65 ≤ Int32.toNatClampNeg (((8 : Int32) + ((3 : Int32) * 0)) + 2) then none else (Option.bind (some (up3 v499 37 0 (Int32.toNatClampNeg (((8 : Int32) + ((3 : Int32) * 0)) + 2)) (r486 - 97))) (fun v501 => Option.bind (some (up3 v501 37 0 (Int32.toNatClampNeg 3) ((v501 37 0 (Int32.toNatClampNeg 3)) + 1))) (fun v502 => some v502))))))))))) else (kb2 (g_X8_takes v487 0 1) (fun r504 v505 => Option.bind (g_X8_isWell v505) (fun r507 => if r507 = 0 then (some v505) else (if (8 : Int32) + ((3 : Int32) * 0) < 0 ∨ 65 ≤ Int32.toNatClampNeg ((8 : Int32) + ((3 : Int32) * 0)) then none else (Option.bind (some (up3 v505 37 0 (Int32.toNatClampNeg ((8 : Int32) + ((3 : Int32) * 0))) r371)) (fun v511 => if ((8 : Int32) + ((3 : Int32) * 0)) + 1 < 0 ∨ 65 ≤ Int32.toNatClampNeg (((8 : Int32) + ((3 : Int32) * 0)) + 1) then none else (Option.bind (some (up3 v511 37 0 (Int32.toNatClampNeg (((8 : Int32) + ((3 : Int32) * 0)) + 1)) r374)) (fun v513 => if ((8 : Int32) + ((3 : Int32) * 0)) + 2 < 0 ∨ 65 ≤ Int32.toNatClampNeg (((8 : Int32) + ((3 : Int32) * 0)) + 2) then none else (Option.bind (some (up3 v513 37 0 (Int32.toNatClampNeg (((8 : Int32) + ((3 : Int32) * 0)) + 2)) (r486 - 97))) (fun v515 => Option.bind (some (up3 v515 37 0 (Int32.toNatClampNeg 3) ((v515 37 0 (Int32.toNatClampNeg 3)) + 1))) (fun v516 => some v516))))))))))))))) else (kb2 (g_X8_takes v375 0 1) (fun r518 v519 => Option.bind (g_X8_isTold v519 r371 r374 ((v519 30 0 12) - 97)) (fun r521 => if r521 = 0 then (kb2 (g_X8_takes v519 1 2) (fun r525 v526 => if v526 30 0 11 = 4 then (kb2 (g_X8_takes v526 1 1) (fun r529 v530 => Option.bind (g_X8_isWell v530) (fun r532 => if r532 = 0 then (some v530) else (if (8 : Int32) + ((3 : Int32) * 0) < 0 ∨ 65 ≤ Int32.toNatClampNeg ((8 : Int32) + ((3 : Int32) * 0)) then none else (Option.bind (some (up3 v530 37 0 (Int32.toNatClampNeg ((8 : Int32) + ((3 : Int32) * 0))) r371)) (fun v536 => if ((8 : Int32) + ((3 : Int32) * 0)) + 1 < 0 ∨ 65 ≤ Int32.toNatClampNeg (((8 : Int32) + ((3 : Int32) * 0)) + 1) then none else (Option.bind (some (up3 v536 37 0 (Int32.toNatClampNeg (((8 : Int32) + ((3 : Int32) * 0)) + 1)) r374)) (fun v538 => if ((8 : Int32) + ((3 : Int32) * 0)) + 2 < 0 ∨ 65 ≤ Int32.toNatClampNeg (((8 : Int32) + ((3 : Int32) * 0)) + 2) then none else (Option.bind (some (up3 v538 37 0 (Int32.toNatClampNeg (((8 : Int32) + ((3 : Int32) * 0)) + 2)) (r525 - 97))) (fun v540 => Option.bind (some (up3 v540 37 0 (Int32.toNatClampNeg 3) ((v540 37 0 (Int32.toNatClampNeg 3)) + 1))) (fun v541 => some v541))))))))))) else (kb2 (g_X8_takes v526 0 1) (fun r543 v544 => Option.bind (g_X8_isWell v544) (fun r546 => if r546 = 0 then (some v544) else (if (8 : Int32) + ((3 : Int32) * 0) < 0 ∨ 65 ≤ Int32.toNatClampNeg ((8 : Int32) + ((3 : Int32) * 0)) then none else (Option.bind (some (up3 v544 37 0 (Int32.toNatClampNeg ((8 : Int32) + ((3 : Int32) * 0))) r371)) (fun v550 => if ((8 : Int32) + ((3 : Int32) * 0)) + 1 < 0 ∨ 65 ≤ Int32.toNatClampNeg (((8 : Int32) + ((3 : Int32) * 0)) + 1) then none else (Option.bind (some (up3 v550 37 0 (Int32.toNatClampNeg (((8 : Int32) + ((3 : Int32) * 0)) + 1)) r374)) (fun v552 => if ((8 : Int32) + ((3 : Int32) * 0)) + 2 < 0 ∨ 65 ≤ Int32.toNatClampNeg (((8 : Int32) + ((3 : Int32) * 0)) + 2) then none else (Option.bind (some (up3 v552 37 0 (Int32.toNatClampNeg (((8 : Int32) + ((3 : Int32) * 0)) + 2)) (r525 - 97))) (fun v554 => Option.bind (some (up3 v554 37 0 (Int32.toNatClampNeg 3) ((v554 37 0 (Int32.toNatClampNeg 3)) + 1))) (fun v555 => some v555))))))))))))) else (kb2 (g_X8_takes v519 0 2) (fun r557 v558 => if v558 30 0 11 = 4 then (kb2 (g_X8_takes v558 1 1) (fun r561 v562 => Option.bind (g_X8_isWell v562) (fun r564 => if r564 = 0 then (some v562) else (if (8 : Int32) + ((3 : Int32) * 0) < 0 ∨ 65 ≤ Int32.toNatClampNeg ((8 : Int32) + ((3 : Int32) * 0)) then none else (Option.bind (some (up3 v562 37 0 (Int32.toNatClampNeg ((8 : Int32) + ((3 : Int32) * 0))) r371)) (fun v568 => if ((8 : Int32) + ((3 : Int32) * 0)) + 1 < 0 ∨ 65 ≤ Int32.toNatClampNeg (((8 : Int32) + ((3 : Int32) * 0)) + 1) then none else (Option.bind (some (up3 v568 37 0 (Int32.toNatClampNeg (((8 : Int32) + ((3 : Int32) * 0)) + 1)) r374)) (fun v570 => if ((8 : Int32) + ((3 : Int32) * 0)) + 2 < 0 ∨ 65 ≤ Int32.toNatClampNeg (((8 : Int32) + ((3 : Int32) * 0)) + 2) then none else (Option.bind (some (up3 v570 37 0 (Int32.toNatClampNeg (((8 : Int32) + ((3 : Int32) * 0)) + 2)) (r557 - 97))) (fun v572 => Option.bind (some (up3 v572 37 0 (Int32.toNatClampNeg 3) ((v572 37 0 (Int32.toNatClampNeg 3)) + 1))) (fun v573 => some v573))))))))))) else (kb2 (g_X8_takes v558 0 1) (fun r575 v576 => Option.bind (g_X8_isWell v576) (fun r578 => if r578 = 0 then (some v576) else (if (8 : Int32) + ((3 : Int32) * 0) < 0 ∨ 65 ≤ Int32.toNatClampNeg ((8 : Int32) + ((3 : Int32) * 0)) then none else (Option.bind (some (up3 v576 37 0 (Int32.toNatClampNeg ((8 : Int32) + ((3 : Int32) * 0))) r371)) (fun v582 => if ((8 : Int32) + ((3 : Int32) * 0)) + 1 < 0 ∨ 65 ≤ Int32.toNatClampNeg (((8 : Int32) + ((3 : Int32) * 0)) + 1) then none else (Option.bind (some (up3 v582 37 0 (Int32.toNatClampNeg (((8 : Int32) + ((3 : Int32) * 0)) + 1)) r374)) (fun v584 => if ((8 : Int32) + ((3 : Int32) * 0)) + 2 < 0 ∨ 65 ≤ Int32.toNatClampNeg (((8 : Int32) + ((3 : Int32) * 0)) + 2) then none else (Option.bind (some (up3 v584 37 0 (Int32.toNatClampNeg (((8 : Int32) + ((3 : Int32) * 0)) + 2)) (r557 - 97))) (fun v586 => Option.bind (some (up3 v586 37 0 (Int32.toNatClampNeg 3) ((v586 37 0 (Int32.toNatClampNeg 3)) + 1))) (fun v587 => some v587))))))))))))))))))))) else (Option.bind (some ((8 : Int32) + ((3 : Int32) * (w22 37 0 (Int32.toNatClampNeg 3))))) (fun x588 => kb2 (g_X8_letterOf w22) (fun r590 v591 => kb2 (g_X8_letterOf v591) (fun r593 v594 => Option.bind (g_X8_isWell v594) (fun r596 => if r596 = 0 then (Option.bind (g_X8_isTold v594 r590 r593 ((v594 30 0 12) - 97)) (fun r600 => if r600 = 0 then (kb2 (g_X8_takes v594 1 2) (fun r604 v605 => if v605 30 0 11 = 4 then (kb2 (g_X8_takes v605 1 1) (fun r608 v609 => Option.bind (g_X8_isWell v609) (fun r611 => if r611 = 0 then (some v609) else (if x588 < 0 ∨ 65 ≤ Int32.toNatClampNeg x588 then none else (Option.bind (some (up3 v609 37 0 (Int32.toNatClampNeg x588) r590)) (fun v615 => if x588 + 1 < 0 ∨ 65 ≤ Int32.toNatClampNeg (x588 + 1) then none else (Option.bind (some (up3 v615 37 0 (Int32.toNatClampNeg (x588 + 1)) r593)) (fun v617 => if x588 + 2 < 0 ∨ 65 ≤ Int32.toNatClampNeg (x588 + 2) then none else (Option.bind (some (up3 v617 37 0 (Int32.toNatClampNeg (x588 + 2)) (r604 - 97))) (fun v619 => Option.bind (some (up3 v619 37 0 (Int32.toNatClampNeg 3) ((v619 37 0 (Int32.toNatClampNeg 3)) + 1))) (fun v620 => some v620))))))))))) else (kb2 (g_X8_takes v605 0 1) (fun r622 v623 => Option.bind (g_X8_isWell v623) (fun r625 => if r625 = 0 then (some v623) else (if x588 < 0 ∨ 65 ≤ Int32.toNatClampNeg x588 then none else (Option.bind (some (up3 v623 37 0 (Int32.toNatClampNeg x588) r590)) (fun v629 => if x588 + 1 < 0 ∨ 65 ≤ Int32.toNatClampNeg (x588 + 1) then none else (Option.bind (some (up3 v629 37 0 (Int32.toNatClampNeg (x588 + 1)) r593)) (fun v631 => if x588 + 2 < 0 ∨ 65 ≤ Int32.toNatClampNeg (x588 + 2) then none else (Option.bind (some (up3 v631 37 0 (Int32.toNatClampNeg (x588 + 2)) (r604 - 97))) (fun v633 => Option.bind (some (up3 v633 37 0 (Int32.toNatClampNeg 3) ((v633 37 0 (Int32.toNatClampNeg 3)) + 1))) (fun v634 => some v634))))))))))))) else (kb2 (g_X8_takes v594 0 2) (fun r636 v637 => if v637 30 0 11 = 4 then (kb2 (g_X8_takes v637 1 1) (fun r640 v641 => Option.bind (g_X8_isWell v641) (fun r643 => if r643 = 0 then (some v641) else (if x588 < 0 ∨ 65 ≤ Int32.toNatClampNeg x588 then none else (Option.bind (some (up3 v641 37 0 (Int32.toNatClampNeg x588) r590)) (fun v647 => if x588 + 1 < 0 ∨ 65 ≤ Int32.toNatClampNeg (x588 + 1) then none else (Option.bind (some (up3 v647 37 0 (Int32.toNatClampNeg (x588 + 1)) r593)) (fun v649 => if x588 + 2 < 0 ∨ 65 ≤ Int32.toNatClampNeg (x588 + 2) then none else (Option.bind (some (up3 v649 37 0 (Int32.toNatClampNeg (x588 + 2)) (r636 - 97))) (fun v651 => Option.bind (some (up3 v651 37 0 (Int32.toNatClampNeg 3) ((v651 37 0 (Int32.toNatClampNeg 3)) + 1))) (fun v652 => some v652))))))))))) else (kb2 (g_X8_takes v637 0 1) (fun r654 v655 => Option.bind (g_X8_isWell v655) (fun r657 => if r657 = 0 then (some v655) else (if x588 < 0 ∨ 65 ≤ Int32.toNatClampNeg x588 then none else (Option.bind (some (up3 v655 37 0 (Int32.toNatClampNeg x588) r590)) (fun v661 => if x588 + 1 < 0 ∨ 65 ≤ Int32.toNatClampNeg (x588 + 1) then none else (Option.bind (some (up3 v661 37 0 (Int32.toNatClampNeg (x588 + 1)) r593)) (fun v663 => if x588 + 2 < 0 ∨ 65 ≤ Int32.toNatClampNeg (x588 + 2) then none else (Option.bind (some (up3 v663 37 0 (Int32.toNatClampNeg (x588 + 2)) (r636 - 97))) (fun v665 => Option.bind (some (up3 v665 37 0 (Int32.toNatClampNeg 3) ((v665 37 0 (Int32.toNatClampNeg 3)) + 1))) (fun v666 => some v666))))))))))))))) else (if v594 30 0 11 = 1 then (Option.bind (g_X8_isTold v594 r590 r593 ((v594 30 0 12) - 97)) (fun r669 => if r669 = 0 then (kb2 (g_X8_takes v594 1 2) (fun r673 v674 => if v674 30 0 11 = 4 then (kb2 (g_X8_takes v674 1 1) (fun r677 v678 => Option.bind (g_X8_isWell v678) (fun r680 => if r680 = 0 then (some v678) else (if x588 < 0 ∨ 65 ≤ Int32.toNatClampNeg x588 then none else (Option.bind (some (up3 v678 37 0 (Int32.toNatClampNeg x588) r590)) (fun v684 => if x588 + 1 < 0 ∨ 65 ≤ Int32.toNatClampNeg (x588 + 1) then none else (Option.bind (some (up3 v684 37 0 (Int32.toNatClampNeg (x588 + 1)) r593)) (fun v686 => if x588 + 2 < 0 ∨ 65 ≤ Int32.toNatClampNeg (x588 + 2) then none else (Option.bind (some (up3 v686 37 0 (Int32.toNatClampNeg (x588 + 2)) (r673 - 97))) (fun v688 => Option.bind (some (up3 v688 37 0 (Int32.toNatClampNeg 3) ((v688 37 0 (Int32.toNatClampNeg 3)) + 1))) (fun v689 => some v689))))))))))) else (kb2 (g_X8_takes v674 0 1) (fun r691 v692 => Option.bind (g_X8_isWell v692) (fun r694 => if r694 = 0 then (some v692) else (if x588 < 0 ∨ 65 ≤ Int32.toNatClampNeg x588 then none else (Option.bind (some (up3 v692 37 0 (Int32.toNatClampNeg x588) r590)) (fun v698 => if x588 + 1 < 0 ∨ 65 ≤ Int32.toNatClampNeg (x588 + 1) then none else (Option.bind (some (up3 v698 37 0 (Int32.toNatClampNeg (x588 + 1)) r593)) (fun v700 => if x588 + 2 < 0 ∨ 65 ≤ Int32.toNatClampNeg (x588 + 2) then none else (Option.bind (some (up3 v700 37 0 (Int32.toNatClampNeg (x588 + 2)) (r673 - 97))) (fun v702 => Option.bind (some (up3 v702 37 0 (Int32.toNatClampNeg 3) ((v702 37 0 (Int32.toNatClampNeg 3)) + 1))) (fun v703 => some v703))))))))))))) else (kb2 (g_X8_takes v594 0 2) (fun r705 v706 => if v706 30 0 11 = 4 then (kb2 (g_X8_takes v706 1 1) (fun r709 v710 => Option.bind (g_X8_isWell v710) (fun r712 => if r712 = 0 then (some v710) else (if x588 < 0 ∨ 65 ≤ Int32.toNatClampNeg x588 then none else (Option.bind (some (up3 v710 37 0 (Int32.toNatClampNeg x588) r590)) (fun v716 => if x588 + 1 < 0 ∨ 65 ≤ Int32.toNatClampNeg (x588 + 1) then none else (Option.bind (some (up3 v716 37 0 (Int32.toNatClampNeg (x588 + 1)) r593)) (fun v718 => if x588 + 2 < 0 ∨ 65 ≤ Int32.toNatClampNeg (x588 + 2) then none else (Option.bind (some (up3 v718 37 0 (Int32.toNatClampNeg (x588 + 2)) (r705 - 97))) (fun v720 => Option.bind (some (up3 v720 37 0 (Int32.toNatClampNeg 3) ((v720 37 0 (Int32.toNatClampNeg 3)) + 1))) (fun v721 => some v721))))))))))) else (kb2 (g_X8_takes v706 0 1) (fun r723 v724 => Option.bind (g_X8_isWell v724) (fun r726 => if r726 = 0 then (some v724) else (if x588 < 0 ∨ 65 ≤ Int32.toNatClampNeg x588 then none else (Option.bind (some (up3 v724 37 0 (Int32.toNatClampNeg x588) r590)) (fun v730 => if x588 + 1 < 0 ∨ 65 ≤ Int32.toNatClampNeg (x588 + 1) then none else (Option.bind (some (up3 v730 37 0 (Int32.toNatClampNeg (x588 + 1)) r593)) (fun v732 => if x588 + 2 < 0 ∨ 65 ≤ Int32.toNatClampNeg (x588 + 2) then none else (Option.bind (some (up3 v732 37 0 (Int32.toNatClampNeg (x588 + 2)) (r705 - 97))) (fun v734 => Option.bind (some (up3 v734 37 0 (Int32.toNatClampNeg 3) ((v734 37 0 (Int32.toNatClampNeg 3)) + 1))) (fun v735 => some v735))))))))))))))) else (kb2 (g_X8_takes v594 0 1) (fun r737 v738 => Option.bind (g_X8_isTold v738 r590 r593 ((v738 30 0 12) - 97)) (fun r740 => if r740 = 0 then (kb2 (g_X8_takes v738 1 2) (fun r744 v745 => if v745 30 0 11 = 4 then (kb2 (g_X8_takes v745 1 1) (fun r748 v749 => Option.bind (g_X8_isWell v749) (fun r751 => if r751 = 0 then (some v749) else (if x588 < 0 ∨ 65 ≤ Int32.toNatClampNeg x588 then none else (Option.bind (some (up3 v749 37 0 (Int32.toNatClampNeg x588) r590)) (fun v755 => if x588 + 1 < 0 ∨ 65 ≤ Int32.toNatClampNeg (x588 + 1) then none else (Option.bind (some (up3 v755 37 0 (Int32.toNatClampNeg (x588 + 1)) r593)) (fun v757 => if x588 + 2 < 0 ∨ 65 ≤ Int32.toNatClampNeg (x588 + 2) then none else (Option.bind (some (up3 v757 37 0 (Int32.toNatClampNeg (x588 + 2)) (r744 - 97))) (fun v759 => Option.bind (some (up3 v759 37 0 (Int32.toNatClampNeg 3) ((v759 37 0 (Int32.toNatClampNeg 3)) + 1))) (fun v760 => some v760))))))))))) else (kb2 (g_X8_takes v745 0 1) (fun r762 v763 => Option.bind (g_X8_isWell v763) (fun r765 => if r765 = 0 then (some v763) else (if x588 < 0 ∨ 65 ≤ Int32.toNatClampNeg x588 then none else (Option.bind (some (up3 v763 37 0 (Int32.toNatClampNeg x588) r590)) (fun v769 => if x588 + 1 < 0 ∨ 65 ≤ Int32.toNatClampNeg (x588 + 1) then none else (Option.bind (some (up3 v769 37 0 (Int32.toNatClampNeg (x588 + 1)) r593)) (fun v771 => if x588 + 2 < 0 ∨ 65 ≤ Int32.toNatClampNeg (x588 + 2) then none else (Option.bind (some (up3 v771 37 0 (Int32.toNatClampNeg (x588 + 2)) (r744 - 97))) (fun v773 => Option.bind (some (up3 v773 37 0 (Int32.toNatClampNeg 3) ((v773 37 0 (Int32.toNatClampNeg 3)) + 1))) (fun v774 => some v774))))))))))))) else (kb2 (g_X8_takes v738 0 2) (fun r776 v777 => if v777 30 0 11 = 4 then (kb2 (g_X8_takes v777 1 1) (fun r780 v781 => Option.bind (g_X8_isWell v781) (fun r783 => if r783 = 0 then (some v781) else (if x588 < 0 ∨ 65 ≤ Int32.toNatClampNeg x588 then none else (Option.bind (some (up3 v781 37 0 (Int32.toNatClampNeg x588) r590)) (fun v787 => if x588 + 1 < 0 ∨ 65 ≤ Int32.toNatClampNeg (x588 + 1) then none else (Option.bind (some (up3 v787 37 0 (Int32.toNatClampNeg (x588 + 1)) r593)) (fun v789 => if x588 + 2 < 0 ∨ 65 ≤ Int32.toNatClampNeg (x588 + 2) then none else (Option.bind (some (up3 v789 37 0 (Int32.toNatClampNeg (x588 + 2)) (r776 - 97))) (fun v791 => Option.bind (some (up3 v791 37 0 (Int32.toNatClampNeg 3) ((v791 37 0 (Int32.toNatClampNeg 3)) + 1))) (fun v792 => some v792))))))))))) else (kb2 (g_X8_takes v777 0 1) (fun r794 v795 => Option.bind (g_X8_isWell v795) (fun r797 => if r797 = 0 then (some v795) else (if x588 < 0 ∨ 65 ≤ Int32.toNatClampNeg x588 then none else (Option.bind (some (up3 v795 37 0 (Int32.toNatClampNeg x588) r590)) (fun v801 => if x588 + 1 < 0 ∨ 65 ≤ Int32.toNatClampNeg (x588 + 1) then none else (Option.bind (some (up3 v801 37 0 (Int32.toNatClampNeg (x588 + 1)) r593)) (fun v803 => if x588 + 2 < 0 ∨ 65 ≤ Int32.toNatClampNeg (x588 + 2) then none else (Option.bind (some (up3 v803 37 0 (Int32.toNatClampNeg (x588 + 2)) (r776 - 97))) (fun v805 => Option.bind (some (up3 v805 37 0 (Int32.toNatClampNeg 3) ((v805 37 0 (Int32.toNatClampNeg 3)) + 1))) (fun v806 => some v806))))))))))))))))))))))) (fun z => FR [37, 207, 208, 209, 210, 211, 212] v z) := by
    intro w22 hF_w22
    refine pk_ite _ (fun c807 => ?_) (fun c807 => ?_)
    · skip
      exact join49 w22 ((8 : Int32) + ((3 : Int32) * 0)) hF_w22
    · skip
      refine pk_let (fun x808 ex808 => ?_)
      exact join49 w22 x808 hF_w22
  unfold g_X8_readsWord
  refine pk_ite _ (fun c809 => ?_) (fun c809 => ?_)
  · skip
    refine pk_kb2 (f_X8_takes v 0 3) (fun r811 v812 hv812 => ?_)
    have hF_v812 := hF_v.tr hv812 (by decide)
    exact join22 v812 hF_v812
  · skip
    refine pk_kb2 (f_X8_takes v 1 3) (fun r814 v815 hv815 => ?_)
    have hF_v815 := hF_v.tr hv815 (by decide)
    exact join22 v815 hF_v815
set_option maxHeartbeats 4000000 in
theorem f_X8_readsGuard (v : Mm)  : pk (g_X8_readsGuard v ) (fun z => FR [37, 207, 208, 209, 210, 211, 212] v z) := by
  have hF_v : FR [37, 207, 208, 209, 210, 211, 212] v v := FR.refl _ v
  have join82 : ∀ (w82 : Mm) (x1_82 : Int32) (x2_82 : Int32) (x3_82 : Int32), FR [37, 207, 208, 209, 210, 211, 212] v w82 → pk (Option.bind (g_X8_isWell w82) (fun r2 => if r2 = 0 then (some w82) else (if x2_82 < 0 ∨ 65 ≤ Int32.toNatClampNeg x2_82 then none else (Option.bind (some (up3 w82 37 0 (Int32.toNatClampNeg x2_82) x1_82)) (fun v6 => if x2_82 + 1 < 0 ∨ 65 ≤ Int32.toNatClampNeg (x2_82 + 1) then none else (Option.bind (some (up3 v6 37 0 (Int32.toNatClampNeg (x2_82 + 1)) x3_82)) (fun v8 => Option.bind (some (up3 v8 37 0 (Int32.toNatClampNeg 6) ((v8 37 0 (Int32.toNatClampNeg 6)) ||| ((1 : Int32) <<< ((v8 37 0 (Int32.toNatClampNeg 4)) &&& 31))))) (fun v9 => Option.bind (some (up3 v9 37 0 (Int32.toNatClampNeg 4) ((v9 37 0 (Int32.toNatClampNeg 4)) + 1))) (fun v10 => some v10))))))))) (fun z => FR [37, 207, 208, 209, 210, 211, 212] v z) := by
    intro w82 x1_82 x2_82 x3_82 hF_w82
    refine pk_bind0 (fun r12 => ?_)
    refine pk_ite _ (fun c14 => ?_) (fun c14 => ?_)
    · skip
      exact pk_some hF_w82
    · skip
      refine pk_grd _ (fun _ => ?_)
      refine pk_let (fun v16 ev16 => ?_)
      have hF_v16 : FR [37, 207, 208, 209, 210, 211, 212] v v16 := by rw [ev16]; exact hF_w82.upa (by decide) (by decide)
      refine pk_grd _ (fun _ => ?_)
      refine pk_let (fun v18 ev18 => ?_)
      have hF_v18 : FR [37, 207, 208, 209, 210, 211, 212] v v18 := by rw [ev18]; exact hF_v16.upa (by decide) (by decide)
      refine pk_let (fun v19 ev19 => ?_)
      have hF_v19 : FR [37, 207, 208, 209, 210, 211, 212] v v19 := by rw [ev19]; exact hF_v18.upa (by decide) (by decide)
      refine pk_let (fun v20 ev20 => ?_)
      have hF_v20 : FR [37, 207, 208, 209, 210, 211, 212] v v20 := by rw [ev20]; exact hF_v19.upa (by decide) (by decide)
      exact pk_some hF_v20
  have join55 : ∀ (w55 : Mm) (x1_55 : Int32) (x2_55 : Int32), FR [37, 207, 208, 209, 210, 211, 212] v w55 → pk (kb2 (g_X8_figure w55 0 9) (fun r22 v23 => if v23 30 0 11 = 4 then (kb2 (g_X8_takes v23 1 1) (fun r26 v27 => Option.bind (g_X8_isWell v27) (fun r29 => if r29 = 0 then (some v27) else (if x2_55 < 0 ∨ 65 ≤ Int32.toNatClampNeg x2_55 then none else (Option.bind (some (up3 v27 37 0 (Int32.toNatClampNeg x2_55) x1_55)) (fun v33 => if x2_55 + 1 < 0 ∨ 65 ≤ Int32.toNatClampNeg (x2_55 + 1) then none else (Option.bind (some (up3 v33 37 0 (Int32.toNatClampNeg (x2_55 + 1)) r22)) (fun v35 => Option.bind (some (up3 v35 37 0 (Int32.toNatClampNeg 6) ((v35 37 0 (Int32.toNatClampNeg 6)) ||| ((1 : Int32) <<< ((v35 37 0 (Int32.toNatClampNeg 4)) &&& 31))))) (fun v36 => Option.bind (some (up3 v36 37 0 (Int32.toNatClampNeg 4) ((v36 37 0 (Int32.toNatClampNeg 4)) + 1))) (fun v37 => some v37)))))))))) else (kb2 (g_X8_takes v23 0 1) (fun r39 v40 => Option.bind (g_X8_isWell v40) (fun r42 => if r42 = 0 then (some v40) else (if x2_55 < 0 ∨ 65 ≤ Int32.toNatClampNeg x2_55 then none else (Option.bind (some (up3 v40 37 0 (Int32.toNatClampNeg x2_55) x1_55)) (fun v46 => if x2_55 + 1 < 0 ∨ 65 ≤ Int32.toNatClampNeg (x2_55 + 1) then none else (Option.bind (some (up3 v46 37 0 (Int32.toNatClampNeg (x2_55 + 1)) r22)) (fun v48 => Option.bind (some (up3 v48 37 0 (Int32.toNatClampNeg 6) ((v48 37 0 (Int32.toNatClampNeg 6)) ||| ((1 : Int32) <<< ((v48 37 0 (Int32.toNatClampNeg 4)) &&& 31))))) (fun v49 => Option.bind (some (up3 v49 37 0 (Int32.toNatClampNeg 4) ((v49 37 0 (Int32.toNatClampNeg 4)) + 1))) (fun v50 => some v50)))))))))))) (fun z => FR [37, 207, 208, 209, 210, 211, 212] v z) := by
    intro w55 x1_55 x2_55 hF_w55
    refine pk_kb2 (f_X8_figure w55 0 9) (fun r52 v53 hv53 => ?_)
    have hF_v53 := hF_w55.tr hv53 (by decide)
    refine pk_ite _ (fun c54 => ?_) (fun c54 => ?_)
    · skip
      refine pk_kb2 (f_X8_takes v53 1 1) (fun r56 v57 hv57 => ?_)
      have hF_v57 := hF_v53.tr hv57 (by decide)
      exact join82 v57 x1_55 x2_55 r52 hF_v57
    · skip
      refine pk_kb2 (f_X8_takes v53 0 1) (fun r59 v60 hv60 => ?_)
      have hF_v60 := hF_v53.tr hv60 (by decide)
      exact join82 v60 x1_55 x2_55 r52 hF_v60
  have join29 : ∀ (w29 : Mm) (x1_29 : Int32), FR [37, 207, 208, 209, 210, 211, 212] v w29 → pk (if 4 ≤ w29 37 0 (Int32.toNatClampNeg 4) then (kb2 (g_X8_figure w29 0 9) (fun r63 v64 => if v64 30 0 11 = 4 then (kb2 (g_X8_takes v64 1 1) (fun r67 v68 => Option.bind (g_X8_isWell v68) (fun r70 => if r70 = 0 then (some v68) else (if (26 : Int32) + ((3 : Int32) * 0) < 0 ∨ 65 ≤ Int32.toNatClampNeg ((26 : Int32) + ((3 : Int32) * 0)) then none else (Option.bind (some (up3 v68 37 0 (Int32.toNatClampNeg ((26 : Int32) + ((3 : Int32) * 0))) x1_29)) (fun v74 => if ((26 : Int32) + ((3 : Int32) * 0)) + 1 < 0 ∨ 65 ≤ Int32.toNatClampNeg (((26 : Int32) + ((3 : Int32) * 0)) + 1) then none else (Option.bind (some (up3 v74 37 0 (Int32.toNatClampNeg (((26 : Int32) + ((3 : Int32) * 0)) + 1)) r63)) (fun v76 => Option.bind (some (up3 v76 37 0 (Int32.toNatClampNeg 6) ((v76 37 0 (Int32.toNatClampNeg 6)) ||| ((1 : Int32) <<< ((v76 37 0 (Int32.toNatClampNeg 4)) &&& 31))))) (fun v77 => Option.bind (some (up3 v77 37 0 (Int32.toNatClampNeg 4) ((v77 37 0 (Int32.toNatClampNeg 4)) + 1))) (fun v78 => some v78)))))))))) else (kb2 (g_X8_takes v64 0 1) (fun r80 v81 => Option.bind (g_X8_isWell v81) (fun r83 => if r83 = 0 then (some v81) else (if (26 : Int32) + ((3 : Int32) * 0) < 0 ∨ 65 ≤ Int32.toNatClampNeg ((26 : Int32) + ((3 : Int32) * 0)) then none else (Option.bind (some (up3 v81 37 0 (Int32.toNatClampNeg ((26 : Int32) + ((3 : Int32) * 0))) x1_29)) (fun v87 => if ((26 : Int32) + ((3 : Int32) * 0)) + 1 < 0 ∨ 65 ≤ Int32.toNatClampNeg (((26 : Int32) + ((3 : Int32) * 0)) + 1) then none else (Option.bind (some (up3 v87 37 0 (Int32.toNatClampNeg (((26 : Int32) + ((3 : Int32) * 0)) + 1)) r63)) (fun v89 => Option.bind (some (up3 v89 37 0 (Int32.toNatClampNeg 6) ((v89 37 0 (Int32.toNatClampNeg 6)) ||| ((1 : Int32) <<< ((v89 37 0 (Int32.toNatClampNeg 4)) &&& 31))))) (fun v90 => Option.bind (some (up3 v90 37 0 (Int32.toNatClampNeg 4) ((v90 37 0 (Int32.toNatClampNeg 4)) + 1))) (fun v91 => some v91)))))))))))) else (Option.bind (some ((26 : Int32) + ((3 : Int32) * (w29 37 0 (Int32.toNatClampNeg 4))))) (fun x92 => kb2 (g_X8_figure w29 0 9) (fun r94 v95 => if v95 30 0 11 = 4 then (kb2 (g_X8_takes v95 1 1) (fun r98 v99 => Option.bind (g_X8_isWell v99) (fun r101 => if r101 = 0 then (some v99) else (if x92 < 0 ∨ 65 ≤ Int32.toNatClampNeg x92 then none else (Option.bind (some (up3 v99 37 0 (Int32.toNatClampNeg x92) x1_29)) (fun v105 => if x92 + 1 < 0 ∨ 65 ≤ Int32.toNatClampNeg (x92 + 1) then none else (Option.bind (some (up3 v105 37 0 (Int32.toNatClampNeg (x92 + 1)) r94)) (fun v107 => Option.bind (some (up3 v107 37 0 (Int32.toNatClampNeg 6) ((v107 37 0 (Int32.toNatClampNeg 6)) ||| ((1 : Int32) <<< ((v107 37 0 (Int32.toNatClampNeg 4)) &&& 31))))) (fun v108 => Option.bind (some (up3 v108 37 0 (Int32.toNatClampNeg 4) ((v108 37 0 (Int32.toNatClampNeg 4)) + 1))) (fun v109 => some v109)))))))))) else (kb2 (g_X8_takes v95 0 1) (fun r111 v112 => Option.bind (g_X8_isWell v112) (fun r114 => if r114 = 0 then (some v112) else (if x92 < 0 ∨ 65 ≤ Int32.toNatClampNeg x92 then none else (Option.bind (some (up3 v112 37 0 (Int32.toNatClampNeg x92) x1_29)) (fun v118 => if x92 + 1 < 0 ∨ 65 ≤ Int32.toNatClampNeg (x92 + 1) then none else (Option.bind (some (up3 v118 37 0 (Int32.toNatClampNeg (x92 + 1)) r94)) (fun v120 => Option.bind (some (up3 v120 37 0 (Int32.toNatClampNeg 6) ((v120 37 0 (Int32.toNatClampNeg 6)) ||| ((1 : Int32) <<< ((v120 37 0 (Int32.toNatClampNeg 4)) &&& 31))))) (fun v121 => Option.bind (some (up3 v121 37 0 (Int32.toNatClampNeg 4) ((v121 37 0 (Int32.toNatClampNeg 4)) + 1))) (fun v122 => some v122)))))))))))))) (fun z => FR [37, 207, 208, 209, 210, 211, 212] v z) := by
    intro w29 x1_29 hF_w29
    refine pk_ite _ (fun c123 => ?_) (fun c123 => ?_)
    · skip
      exact join55 w29 x1_29 ((26 : Int32) + ((3 : Int32) * 0)) hF_w29
    · skip
      refine pk_let (fun x124 ex124 => ?_)
      exact join55 w29 x1_29 x124 hF_w29
  unfold g_X8_readsGuard
  refine pk_bind0 (fun r126 => ?_)
  refine pk_ite _ (fun c128 => ?_) (fun c128 => ?_)
  · skip
    refine pk_kb2 (f_X8_takes v 0 3) (fun r130 v131 hv131 => ?_)
    have hF_v131 := hF_v.tr hv131 (by decide)
    exact join29 v131 r126 hF_v131
  · skip
    refine pk_kb2 (f_X8_takes v 1 3) (fun r133 v134 hv134 => ?_)
    have hF_v134 := hF_v.tr hv134 (by decide)
    exact join29 v134 r126 hF_v134
set_option maxHeartbeats 4000000 in
theorem f_X8_must (v : Mm) (a1 : Int32) : pk (g_X8_must v a1) (fun z => FR [207, 208, 209, 210, 211, 212] v z) := by
  have hF_v : FR [207, 208, 209, 210, 211, 212] v v := FR.refl _ v
  unfold g_X8_must
  refine pk_bind0 (fun r2 => ?_)
  refine pk_ite _ (fun c4 => ?_) (fun c4 => ?_)
  · skip
    exact pk_some hF_v
  · skip
    refine pk_ite _ (fun c5 => ?_) (fun c5 => ?_)
    · skip
      refine pk_kb2 (f_X8_takes v 0 1) (fun r7 v8 hv8 => ?_)
      have hF_v8 := hF_v.tr hv8 (by decide)
      exact pk_some hF_v8
    · skip
      exact pk_some hF_v
set_option maxHeartbeats 4000000 in
theorem f_X8_gate (v : Mm)  : pk (g_X8_gate v ) (fun z => FR [36, 37, 206, 207, 208, 209, 210, 211, 212, 217] v z.2) := by
  have hF_v : FR [36, 37, 206, 207, 208, 209, 210, 211, 212, 217] v v := FR.refl _ v
  have join253 : ∀ (w253 : Mm) (x1_253 : Int32), FR [36, 37, 206, 207, 208, 209, 210, 211, 212, 217] v w253 → pk (Option.bind (some (up3 w253 30 0 6 0)) (fun v1 => Option.bind (g_X8_isWell v1) (fun r3 => if r3 = 0 then (some (((-1000100)) - (v1 30 0 8), v1)) else (Option.bind (g_X8_copies_37_36 v1 0 0) (fun v8 => Option.bind (some (up3 v8 30 0 17 0)) (fun v9 => some (v9 36 0 (Int32.toNatClampNeg 3), v9))))))) (fun z => FR [36, 37, 206, 207, 208, 209, 210, 211, 212, 217] v z.2) := by
    intro w253 x1_253 hF_w253
    refine pk_let (fun v10 ev10 => ?_)
    have hF_v10 : FR [36, 37, 206, 207, 208, 209, 210, 211, 212, 217] v v10 := by rw [ev10]; exact hF_w253.upf (by decide)
    refine pk_bind0 (fun r12 => ?_)
    refine pk_ite _ (fun c14 => ?_) (fun c14 => ?_)
    · skip
      exact pk_some hF_v10
    · skip
      refine pk_bind (f_X8_copies_37_36 v10 0 0) (fun v17 hv17 => ?_)
      have hF_v17 := hF_v10.tr hv17 (by decide)
      refine pk_let (fun v18 ev18 => ?_)
      have hF_v18 : FR [36, 37, 206, 207, 208, 209, 210, 211, 212, 217] v v18 := by rw [ev18]; exact hF_v17.upf (by decide)
      exact pk_some hF_v18
  have join237 : ∀ (w237 : Mm) (x1_237 : Int32), FR [36, 37, 206, 207, 208, 209, 210, 211, 212, 217] v w237 → pk (if w237 30 0 11 = 0 then (Option.bind (g_X8_must w237 1) (fun v22 => Option.bind (some (up3 v22 30 0 6 0)) (fun v23 => Option.bind (g_X8_isWell v23) (fun r25 => if r25 = 0 then (some (((-1000100)) - (v23 30 0 8), v23)) else (Option.bind (g_X8_copies_37_36 v23 0 0) (fun v30 => Option.bind (some (up3 v30 30 0 17 0)) (fun v31 => some (v31 36 0 (Int32.toNatClampNeg 3), v31)))))))) else (Option.bind (g_X8_must w237 0) (fun v34 => Option.bind (some (up3 v34 30 0 6 0)) (fun v35 => Option.bind (g_X8_isWell v35) (fun r37 => if r37 = 0 then (some (((-1000100)) - (v35 30 0 8), v35)) else (Option.bind (g_X8_copies_37_36 v35 0 0) (fun v42 => Option.bind (some (up3 v42 30 0 17 0)) (fun v43 => some (v43 36 0 (Int32.toNatClampNeg 3), v43))))))))) (fun z => FR [36, 37, 206, 207, 208, 209, 210, 211, 212, 217] v z.2) := by
    intro w237 x1_237 hF_w237
    refine pk_ite _ (fun c44 => ?_) (fun c44 => ?_)
    · skip
      refine pk_bind (f_X8_must w237 1) (fun v47 hv47 => ?_)
      have hF_v47 := hF_w237.tr hv47 (by decide)
      exact join253 v47 x1_237 hF_v47
    · skip
      refine pk_bind (f_X8_must w237 0) (fun v50 hv50 => ?_)
      have hF_v50 := hF_w237.tr hv50 (by decide)
      exact join253 v50 x1_237 hF_v50
  have loop205 : ∀ (n205 : Nat) (w205 : Mm) (x1_205 : Int32), FR [36, 37, 206, 207, 208, 209, 210, 211, 212, 217] v w205 → pk (g_X8_gate_L205   n205 w205 x1_205) (fun z => FR [36, 37, 206, 207, 208, 209, 210, 211, 212, 217] v z.2) := by
    intro n205
    induction n205 with
    | zero => intro w205 x1_205 hF_w205 b9 e9; cases e9
    | succ n205 ih205 =>
      intro w205 x1_205 hF_w205
      show pk (b_X8_gate_L205  (g_X8_gate_L205   n205)  w205 x1_205) _
      unfold b_X8_gate_L205
      refine pk_bind0 (fun r52 => ?_)
      refine pk_ite _ (fun c54 => ?_) (fun c54 => ?_)
      · skip
        exact join237 w205 x1_205 hF_w205
      · skip
        refine pk_ite _ (fun c55 => ?_) (fun c55 => ?_)
        · skip
          refine pk_bind0 (fun r57 => ?_)
          refine pk_ite _ (fun c59 => ?_) (fun c59 => ?_)
          · skip
            exact join237 w205 x1_205 hF_w205
          · skip
            refine pk_bind (f_X8_readsGuard w205 ) (fun v62 hv62 => ?_)
            have hF_v62 := hF_w205.tr hv62 (by decide)
            exact ih205 v62 x1_205 hF_v62
        · skip
          exact join237 w205 x1_205 hF_w205
  have join178 : ∀ (w178 : Mm) (x1_178 : Int32), FR [36, 37, 206, 207, 208, 209, 210, 211, 212, 217] v w178 → pk (if w178 30 0 11 = 1 then (Option.bind (g_X8_kindOf w178 (w178 30 0 12)) (fun r65 => if r65 ≤ 0 then (Option.bind (g_X8_must w178 0) (fun v70 => g_X8_gate_L205   2000 v70 x1_178)) else (Option.bind (g_X8_must w178 1) (fun v73 => g_X8_gate_L205   2000 v73 x1_178)))) else (Option.bind (g_X8_must w178 0) (fun v76 => g_X8_gate_L205   2000 v76 x1_178))) (fun z => FR [36, 37, 206, 207, 208, 209, 210, 211, 212, 217] v z.2) := by
    intro w178 x1_178 hF_w178
    refine pk_ite _ (fun c77 => ?_) (fun c77 => ?_)
    · skip
      refine pk_bind0 (fun r79 => ?_)
      refine pk_ite _ (fun c81 => ?_) (fun c81 => ?_)
      · skip
        refine pk_bind (f_X8_must w178 0) (fun v84 hv84 => ?_)
        have hF_v84 := hF_w178.tr hv84 (by decide)
        exact loop205 2000 v84 x1_178 hF_v84
      · skip
        refine pk_bind (f_X8_must w178 1) (fun v87 hv87 => ?_)
        have hF_v87 := hF_w178.tr hv87 (by decide)
        exact loop205 2000 v87 x1_178 hF_v87
    · skip
      refine pk_bind (f_X8_must w178 0) (fun v90 hv90 => ?_)
      have hF_v90 := hF_w178.tr hv90 (by decide)
      exact loop205 2000 v90 x1_178 hF_v90
  have loop147 : ∀ (n147 : Nat) (w147 : Mm) (x1_147 : Int32), FR [36, 37, 206, 207, 208, 209, 210, 211, 212, 217] v w147 → pk (g_X8_gate_L147   n147 w147 x1_147) (fun z => FR [36, 37, 206, 207, 208, 209, 210, 211, 212, 217] v z.2) := by
    intro n147
    induction n147 with
    | zero => intro w147 x1_147 hF_w147 b9 e9; cases e9
    | succ n147 ih147 =>
      intro w147 x1_147 hF_w147
      show pk (b_X8_gate_L147  (g_X8_gate_L147   n147)  w147 x1_147) _
      unfold b_X8_gate_L147
      refine pk_bind0 (fun r92 => ?_)
      refine pk_ite _ (fun c94 => ?_) (fun c94 => ?_)
      · skip
        exact join178 w147 x1_147 hF_w147
      · skip
        refine pk_ite _ (fun c95 => ?_) (fun c95 => ?_)
        · skip
          refine pk_ite _ (fun c96 => ?_) (fun c96 => ?_)
          · skip
            refine pk_bind (f_X8_readsWord w147 ) (fun v99 hv99 => ?_)
            have hF_v99 := hF_w147.tr hv99 (by decide)
            exact ih147 v99 x1_147 hF_v99
          · skip
            exact join178 w147 x1_147 hF_w147
        · skip
          exact join178 w147 x1_147 hF_w147
  have join121 : ∀ (w121 : Mm) (x1_121 : Int32), FR [36, 37, 206, 207, 208, 209, 210, 211, 212, 217] v w121 → pk (if w121 30 0 11 = 1 then (if w121 30 0 12 = 119 then (Option.bind (g_X8_must w121 1) (fun v104 => g_X8_gate_L147   2000 v104 x1_121)) else (Option.bind (g_X8_must w121 0) (fun v107 => g_X8_gate_L147   2000 v107 x1_121))) else (Option.bind (g_X8_must w121 0) (fun v110 => g_X8_gate_L147   2000 v110 x1_121))) (fun z => FR [36, 37, 206, 207, 208, 209, 210, 211, 212, 217] v z.2) := by
    intro w121 x1_121 hF_w121
    refine pk_ite _ (fun c111 => ?_) (fun c111 => ?_)
    · skip
      refine pk_ite _ (fun c112 => ?_) (fun c112 => ?_)
      · skip
        refine pk_bind (f_X8_must w121 1) (fun v115 hv115 => ?_)
        have hF_v115 := hF_w121.tr hv115 (by decide)
        exact loop147 2000 v115 x1_121 hF_v115
      · skip
        refine pk_bind (f_X8_must w121 0) (fun v118 hv118 => ?_)
        have hF_v118 := hF_w121.tr hv118 (by decide)
        exact loop147 2000 v118 x1_121 hF_v118
    · skip
      refine pk_bind (f_X8_must w121 0) (fun v121 hv121 => ?_)
      have hF_v121 := hF_w121.tr hv121 (by decide)
      exact loop147 2000 v121 x1_121 hF_v121
  have join63 : ∀ (w63 : Mm) (x1_63 : Int32), FR [36, 37, 206, 207, 208, 209, 210, 211, 212, 217] v w63 → pk (kb2 (g_X8_figure w63 0 9) (fun r123 v124 => Option.bind (some (up3 v124 37 0 (Int32.toNatClampNeg 0) r123)) (fun v125 => kb2 (g_X8_follows v125 0 9) (fun r127 v128 => Option.bind (some (up3 v128 37 0 (Int32.toNatClampNeg 1) r127)) (fun v129 => kb2 (g_X8_follows v129 0 6) (fun r131 v132 => Option.bind (some (up3 v132 37 0 (Int32.toNatClampNeg 2) r131)) (fun v133 => if v133 30 0 11 = 4 then (kb2 (g_X8_takes v133 1 1) (fun r136 v137 => if v137 30 0 11 = 1 then (if v137 30 0 12 = 119 then (Option.bind (g_X8_must v137 1) (fun v142 => g_X8_gate_L147   2000 v142 x1_63)) else (Option.bind (g_X8_must v137 0) (fun v145 => g_X8_gate_L147   2000 v145 x1_63))) else (Option.bind (g_X8_must v137 0) (fun v148 => g_X8_gate_L147   2000 v148 x1_63)))) else (kb2 (g_X8_takes v133 0 1) (fun r150 v151 => if v151 30 0 11 = 1 then (if v151 30 0 12 = 119 then (Option.bind (g_X8_must v151 1) (fun v156 => g_X8_gate_L147   2000 v156 x1_63)) else (Option.bind (g_X8_must v151 0) (fun v159 => g_X8_gate_L147   2000 v159 x1_63))) else (Option.bind (g_X8_must v151 0) (fun v162 => g_X8_gate_L147   2000 v162 x1_63))))))))))) (fun z => FR [36, 37, 206, 207, 208, 209, 210, 211, 212, 217] v z.2) := by
    intro w63 x1_63 hF_w63
    refine pk_kb2 (f_X8_figure w63 0 9) (fun r164 v165 hv165 => ?_)
    have hF_v165 := hF_w63.tr hv165 (by decide)
    refine pk_let (fun v166 ev166 => ?_)
    have hF_v166 : FR [36, 37, 206, 207, 208, 209, 210, 211, 212, 217] v v166 := by rw [ev166]; exact hF_v165.upa (by decide) (by decide)
    refine pk_kb2 (f_X8_follows v166 0 9) (fun r168 v169 hv169 => ?_)
    have hF_v169 := hF_v166.tr hv169 (by decide)
    refine pk_let (fun v170 ev170 => ?_)
    have hF_v170 : FR [36, 37, 206, 207, 208, 209, 210, 211, 212, 217] v v170 := by rw [ev170]; exact hF_v169.upa (by decide) (by decide)
    refine pk_kb2 (f_X8_follows v170 0 6) (fun r172 v173 hv173 => ?_)
    have hF_v173 := hF_v170.tr hv173 (by decide)
    refine pk_let (fun v174 ev174 => ?_)
    have hF_v174 : FR [36, 37, 206, 207, 208, 209, 210, 211, 212, 217] v v174 := by rw [ev174]; exact hF_v173.upa (by decide) (by decide)
    refine pk_ite _ (fun c175 => ?_) (fun c175 => ?_)
    · skip
      refine pk_kb2 (f_X8_takes v174 1 1) (fun r177 v178 hv178 => ?_)
      have hF_v178 := hF_v174.tr hv178 (by decide)
      exact join121 v178 x1_63 hF_v178
    · skip
      refine pk_kb2 (f_X8_takes v174 0 1) (fun r180 v181 hv181 => ?_)
      have hF_v181 := hF_v174.tr hv181 (by decide)
      exact join121 v181 x1_63 hF_v181
  have loop2 : ∀ (n2 : Nat) (w2 : Mm) (x1_2 : Int32), FR [36, 37, 206, 207, 208, 209, 210, 211, 212, 217] v w2 → pk (g_X8_gate_L2   n2 w2 x1_2) (fun z => FR [36, 37, 206, 207, 208, 209, 210, 211, 212, 217] v z.2) := by
    intro n2
    induction n2 with
    | zero => intro w2 x1_2 hF_w2 b9 e9; cases e9
    | succ n2 ih2 =>
      intro w2 x1_2 hF_w2
      show pk (b_X8_gate_L2  (g_X8_gate_L2   n2)  w2 x1_2) _
      unfold b_X8_gate_L2
      refine pk_ite _ (fun c182 => ?_) (fun c182 => ?_)
      · skip
        refine pk_let (fun v183 ev183 => ?_)
        have hF_v183 : FR [36, 37, 206, 207, 208, 209, 210, 211, 212, 217] v v183 := by rw [ev183]; exact hF_w2.upf (by decide)
        refine pk_let (fun v184 ev184 => ?_)
        have hF_v184 : FR [36, 37, 206, 207, 208, 209, 210, 211, 212, 217] v v184 := by rw [ev184]; exact hF_v183.upf (by decide)
        refine pk_bind (f_X8_advances v184 ) (fun v187 hv187 => ?_)
        have hF_v187 := hF_v184.tr hv187 (by decide)
        refine pk_ite _ (fun c188 => ?_) (fun c188 => ?_)
        · skip
          refine pk_ite _ (fun c189 => ?_) (fun c189 => ?_)
          · skip
            refine pk_kb2 (f_X8_takes v187 1 1) (fun r191 v192 hv192 => ?_)
            have hF_v192 := hF_v187.tr hv192 (by decide)
            exact join63 v192 x1_2 hF_v192
          · skip
            refine pk_kb2 (f_X8_takes v187 0 1) (fun r194 v195 hv195 => ?_)
            have hF_v195 := hF_v187.tr hv195 (by decide)
            exact join63 v195 x1_2 hF_v195
        · skip
          refine pk_kb2 (f_X8_takes v187 0 1) (fun r197 v198 hv198 => ?_)
          have hF_v198 := hF_v187.tr hv198 (by decide)
          exact join63 v198 x1_2 hF_v198
      · skip
        refine pk_grd _ (fun _ => ?_)
        refine pk_let (fun v200 ev200 => ?_)
        have hF_v200 : FR [36, 37, 206, 207, 208, 209, 210, 211, 212, 217] v v200 := by rw [ev200]; exact hF_w2.upa (by decide) (by decide)
        exact ih2 v200 (x1_2 + 1) hF_v200
  unfold g_X8_gate
  exact loop2 2000 v 0 hF_v
set_option maxHeartbeats 4000000 in
theorem f_X8_notes (v : Mm)  : pk (g_X8_notes v ) (fun z => FR [39, 217] v z) := by
  have hF_v : FR [39, 217] v v := FR.refl _ v
  have loop11 : ∀ (n11 : Nat) (w11 : Mm) (x1_11 : Int32), FR [39, 217] v w11 → pk (g_X8_notes_L11   n11 w11 x1_11) (fun z => FR [39, 217] v z) := by
    intro n11
    induction n11 with
    | zero => intro w11 x1_11 hF_w11 b9 e9; cases e9
    | succ n11 ih11 =>
      intro w11 x1_11 hF_w11
      show pk (b_X8_notes_L11  (g_X8_notes_L11   n11)  w11 x1_11) _
      unfold b_X8_notes_L11
      refine pk_ite _ (fun c1 => ?_) (fun c1 => ?_)
      · skip
        refine pk_let (fun v2 ev2 => ?_)
        have hF_v2 : FR [39, 217] v v2 := by rw [ev2]; exact hF_w11.upf (by decide)
        refine pk_bind (f_X8_copies_36_39 v2 0 ((65 : Int32) * (v2 30 0 17))) (fun v5 hv5 => ?_)
        have hF_v5 := hF_v2.tr hv5 (by decide)
        refine pk_let (fun v6 ev6 => ?_)
        have hF_v6 : FR [39, 217] v v6 := by rw [ev6]; exact hF_v5.upf (by decide)
        exact pk_some hF_v6
      · skip
        refine pk_grd _ (fun _ => ?_)
        refine pk_grd _ (fun _ => ?_)
        refine pk_let (fun v9 ev9 => ?_)
        have hF_v9 : FR [39, 217] v v9 := by rw [ev9]; exact hF_w11.upa (by decide) (by decide)
        exact ih11 v9 (x1_11 + 1) hF_v9
  unfold g_X8_notes
  refine pk_ite _ (fun c10 => ?_) (fun c10 => ?_)
  · skip
    exact loop11 2000 v 0 hF_v
  · skip
    refine pk_bind (f_X8_copies_36_39 v 0 ((65 : Int32) * (v 30 0 17))) (fun v13 hv13 => ?_)
    have hF_v13 := hF_v.tr hv13 (by decide)
    refine pk_let (fun v14 ev14 => ?_)
    have hF_v14 : FR [39, 217] v v14 := by rw [ev14]; exact hF_v13.upf (by decide)
    exact pk_some hF_v14
set_option maxHeartbeats 4000000 in
theorem f_X8_forgets (v : Mm)  : pk (g_X8_forgets v ) (fun z => FR [36] v z) := by
  have hF_v : FR [36] v v := FR.refl _ v
  have loop3 : ∀ (n3 : Nat) (w3 : Mm) (x1_3 : Int32), FR [36] v w3 → pk (g_X8_forgets_L3   n3 w3 x1_3) (fun z => FR [36] v z) := by
    intro n3
    induction n3 with
    | zero => intro w3 x1_3 hF_w3 b9 e9; cases e9
    | succ n3 ih3 =>
      intro w3 x1_3 hF_w3
      show pk (b_X8_forgets_L3  (g_X8_forgets_L3   n3)  w3 x1_3) _
      unfold b_X8_forgets_L3
      refine pk_ite _ (fun c1 => ?_) (fun c1 => ?_)
      · skip
        refine pk_let (fun v2 ev2 => ?_)
        have hF_v2 : FR [36] v v2 := by rw [ev2]; exact hF_w3.upa (by decide) (by decide)
        exact pk_some hF_v2
      · skip
        refine pk_grd _ (fun _ => ?_)
        refine pk_let (fun v4 ev4 => ?_)
        have hF_v4 : FR [36] v v4 := by rw [ev4]; exact hF_w3.upa (by decide) (by decide)
        exact ih3 v4 (x1_3 + 1) hF_v4
  unfold g_X8_forgets
  exact loop3 2000 v 38 hF_v
set_option maxHeartbeats 4000000 in
theorem f_X8_nights (v : Mm) (a1 : Int32) : pk (g_X8_nights v a1) (fun z => FR [36, 39, 217] v z.2) := by
  have hF_v : FR [36, 39, 217] v v := FR.refl _ v
  have loop42 : ∀ (n42 : Nat) (w42 : Mm) (x2_42 : Int32), FR [36, 39, 217] v w42 → pk (g_X8_nights_L42  a1 n42 w42 x2_42) (fun z => FR [36, 39, 217] v z.2) := by
    intro n42
    induction n42 with
    | zero => intro w42 x2_42 hF_w42 b9 e9; cases e9
    | succ n42 ih42 =>
      intro w42 x2_42 hF_w42
      show pk (b_X8_nights_L42  (g_X8_nights_L42  a1 n42) a1 w42 x2_42) _
      unfold b_X8_nights_L42
      refine pk_ite _ (fun c1 => ?_) (fun c1 => ?_)
      · skip
        refine pk_bind0 (fun r3 => ?_)
        exact pk_some hF_w42
      · skip
        refine pk_bind (f_X8_notes w42 ) (fun v7 hv7 => ?_)
        have hF_v7 := hF_w42.tr hv7 (by decide)
        refine pk_let (fun v8 ev8 => ?_)
        have hF_v8 : FR [36, 39, 217] v v8 := by rw [ev8]; exact hF_v7.upa (by decide) (by decide)
        refine pk_bind (f_X8_forgets v8 ) (fun v11 hv11 => ?_)
        have hF_v11 := hF_v8.tr hv11 (by decide)
        exact ih42 v11 (x2_42 + 1) hF_v11
  unfold g_X8_nights
  refine pk_bind0 (fun r13 => ?_)
  refine pk_ite _ (fun c15 => ?_) (fun c15 => ?_)
  · skip
    exact pk_some hF_v
  · skip
    refine pk_bind0 (fun r17 => ?_)
    refine pk_ite _ (fun c19 => ?_) (fun c19 => ?_)
    · skip
      exact pk_some hF_v
    · skip
      refine pk_ite _ (fun c20 => ?_) (fun c20 => ?_)
      · skip
        exact loop42 2000 v 0 hF_v
      · skip
        exact pk_some hF_v
set_option maxHeartbeats 4000000 in
theorem f_X8_say (v : Mm) (a1 : Int32) (a2 : Int32) : pk (g_X8_say v a1 a2) (fun z => FR [36, 39, 217] v z.2) := by
  have hF_v : FR [36, 39, 217] v v := FR.refl _ v
  unfold g_X8_say
  refine pk_bind0 (fun r2 => ?_)
  refine pk_ite _ (fun c4 => ?_) (fun c4 => ?_)
  · skip
    exact pk_some hF_v
  · skip
    refine pk_bind0 (fun r6 => ?_)
    refine pk_ite _ (fun c8 => ?_) (fun c8 => ?_)
    · skip
      exact pk_some hF_v
    · skip
      refine pk_ite _ (fun c9 => ?_) (fun c9 => ?_)
      · skip
        exact pk_some hF_v
      · skip
        refine pk_bind (f_X8_notes v ) (fun v12 hv12 => ?_)
        have hF_v12 := hF_v.tr hv12 (by decide)
        refine pk_bind0 (fun r14 => ?_)
        refine pk_bind0 (fun r17 => ?_)
        refine pk_ite _ (fun c19 => ?_) (fun c19 => ?_)
        · skip
          refine pk_let (fun x20 ex20 => ?_)
          refine pk_grd _ (fun _ => ?_)
          refine pk_let (fun v22 ev22 => ?_)
          have hF_v22 : FR [36, 39, 217] v v22 := by rw [ev22]; exact hF_v12.upa (by decide) (by decide)
          refine pk_bind0 (fun r24 => ?_)
          refine pk_ite _ (fun c26 => ?_) (fun c26 => ?_)
          · skip
            refine pk_grd _ (fun _ => ?_)
            refine pk_let (fun v28 ev28 => ?_)
            have hF_v28 : FR [36, 39, 217] v v28 := by rw [ev28]; exact hF_v22.upa (by decide) (by decide)
            refine pk_grd _ (fun _ => ?_)
            refine pk_let (fun v30 ev30 => ?_)
            have hF_v30 : FR [36, 39, 217] v v30 := by rw [ev30]; exact hF_v28.upa (by decide) (by decide)
            refine pk_let (fun v31 ev31 => ?_)
            have hF_v31 : FR [36, 39, 217] v v31 := by rw [ev31]; exact hF_v30.upa (by decide) (by decide)
            refine pk_grd _ (fun _ => ?_)
            refine pk_grd _ (fun _ => ?_)
            refine pk_let (fun v34 ev34 => ?_)
            have hF_v34 : FR [36, 39, 217] v v34 := by rw [ev34]; exact hF_v31.upa (by decide) (by decide)
            exact pk_some hF_v34
          · skip
            refine pk_grd _ (fun _ => ?_)
            refine pk_let (fun v36 ev36 => ?_)
            have hF_v36 : FR [36, 39, 217] v v36 := by rw [ev36]; exact hF_v22.upa (by decide) (by decide)
            refine pk_grd _ (fun _ => ?_)
            refine pk_let (fun v38 ev38 => ?_)
            have hF_v38 : FR [36, 39, 217] v v38 := by rw [ev38]; exact hF_v36.upa (by decide) (by decide)
            refine pk_let (fun v39 ev39 => ?_)
            have hF_v39 : FR [36, 39, 217] v v39 := by rw [ev39]; exact hF_v38.upa (by decide) (by decide)
            refine pk_grd _ (fun _ => ?_)
            refine pk_grd _ (fun _ => ?_)
            refine pk_let (fun v42 ev42 => ?_)
            have hF_v42 : FR [36, 39, 217] v v42 := by rw [ev42]; exact hF_v39.upa (by decide) (by decide)
            exact pk_some hF_v42
        · skip
          refine pk_let (fun x43 ex43 => ?_)
          refine pk_grd _ (fun _ => ?_)
          refine pk_let (fun v45 ev45 => ?_)
          have hF_v45 : FR [36, 39, 217] v v45 := by rw [ev45]; exact hF_v12.upa (by decide) (by decide)
          refine pk_bind0 (fun r47 => ?_)
          refine pk_ite _ (fun c49 => ?_) (fun c49 => ?_)
          · skip
            refine pk_grd _ (fun _ => ?_)
            refine pk_let (fun v51 ev51 => ?_)
            have hF_v51 : FR [36, 39, 217] v v51 := by rw [ev51]; exact hF_v45.upa (by decide) (by decide)
            refine pk_grd _ (fun _ => ?_)
            refine pk_let (fun v53 ev53 => ?_)
            have hF_v53 : FR [36, 39, 217] v v53 := by rw [ev53]; exact hF_v51.upa (by decide) (by decide)
            refine pk_let (fun v54 ev54 => ?_)
            have hF_v54 : FR [36, 39, 217] v v54 := by rw [ev54]; exact hF_v53.upa (by decide) (by decide)
            refine pk_grd _ (fun _ => ?_)
            refine pk_grd _ (fun _ => ?_)
            refine pk_let (fun v57 ev57 => ?_)
            have hF_v57 : FR [36, 39, 217] v v57 := by rw [ev57]; exact hF_v54.upa (by decide) (by decide)
            exact pk_some hF_v57
          · skip
            refine pk_grd _ (fun _ => ?_)
            refine pk_let (fun v59 ev59 => ?_)
            have hF_v59 : FR [36, 39, 217] v v59 := by rw [ev59]; exact hF_v45.upa (by decide) (by decide)
            refine pk_grd _ (fun _ => ?_)
            refine pk_let (fun v61 ev61 => ?_)
            have hF_v61 : FR [36, 39, 217] v v61 := by rw [ev61]; exact hF_v59.upa (by decide) (by decide)
            refine pk_let (fun v62 ev62 => ?_)
            have hF_v62 : FR [36, 39, 217] v v62 := by rw [ev62]; exact hF_v61.upa (by decide) (by decide)
            refine pk_grd _ (fun _ => ?_)
            refine pk_grd _ (fun _ => ?_)
            refine pk_let (fun v65 ev65 => ?_)
            have hF_v65 : FR [36, 39, 217] v v65 := by rw [ev65]; exact hF_v62.upa (by decide) (by decide)
            exact pk_some hF_v65
set_option maxHeartbeats 4000000 in
theorem f_X8_start (v : Mm) (a1 : Int32) : pk (g_X8_start v a1) (fun z => FR [36, 39, 217] v z.2) := by
  have hF_v : FR [36, 39, 217] v v := FR.refl _ v
  unfold g_X8_start
  refine pk_bind0 (fun r2 => ?_)
  refine pk_ite _ (fun c4 => ?_) (fun c4 => ?_)
  · skip
    exact pk_some hF_v
  · skip
    refine pk_bind0 (fun r6 => ?_)
    refine pk_ite _ (fun c8 => ?_) (fun c8 => ?_)
    · skip
      exact pk_some hF_v
    · skip
      refine pk_bind (f_X8_notes v ) (fun v11 hv11 => ?_)
      have hF_v11 := hF_v.tr hv11 (by decide)
      refine pk_let (fun v12 ev12 => ?_)
      have hF_v12 : FR [36, 39, 217] v v12 := by rw [ev12]; exact hF_v11.upa (by decide) (by decide)
      exact pk_some hF_v12
set_option maxHeartbeats 4000000 in
theorem f_X8_dismiss (v : Mm) (a1 : Int32) (a2 : Int32) : pk (g_X8_dismiss v a1 a2) (fun z => FR [36, 39, 217] v z.2) := by
  have hF_v : FR [36, 39, 217] v v := FR.refl _ v
  unfold g_X8_dismiss
  refine pk_bind0 (fun r2 => ?_)
  refine pk_ite _ (fun c4 => ?_) (fun c4 => ?_)
  · skip
    exact pk_some hF_v
  · skip
    refine pk_bind0 (fun r6 => ?_)
    refine pk_ite _ (fun c8 => ?_) (fun c8 => ?_)
    · skip
      exact pk_some hF_v
    · skip
      refine pk_ite _ (fun c9 => ?_) (fun c9 => ?_)
      · skip
        exact pk_some hF_v
      · skip
        refine pk_bind (f_X8_notes v ) (fun v12 hv12 => ?_)
        have hF_v12 := hF_v.tr hv12 (by decide)
        refine pk_let (fun v13 ev13 => ?_)
        have hF_v13 : FR [36, 39, 217] v v13 := by rw [ev13]; exact hF_v12.upa (by decide) (by decide)
        exact pk_some hF_v13
set_option maxHeartbeats 4000000 in
theorem f_X8_undo (v : Mm)  : pk (g_X8_undo v ) (fun z => FR [36, 217] v z.2) := by
  have hF_v : FR [36, 217] v v := FR.refl _ v
  unfold g_X8_undo
  refine pk_ite _ (fun c1 => ?_) (fun c1 => ?_)
  · skip
    exact pk_some hF_v
  · skip
    refine pk_let (fun v2 ev2 => ?_)
    have hF_v2 : FR [36, 217] v v2 := by rw [ev2]; exact hF_v.upf (by decide)
    refine pk_bind (f_X8_copies_39_36 v2 ((65 : Int32) * (v2 30 0 17)) 0) (fun v5 hv5 => ?_)
    have hF_v5 := hF_v2.tr hv5 (by decide)
    exact pk_some hF_v5
set_option maxHeartbeats 4000000 in
theorem f_X8_fewest (v : Mm)  : pk (g_X8_fewest v ) (fun z => FR [42] v z.2) := by
  have hF_v : FR [42] v v := FR.refl _ v
  have loop17 : ∀ (n17 : Nat) (w17 : Mm) (x1_17 : Int32) (x2_17 : Int32), FR [42] v w17 → pk (g_X8_fewest_L17   n17 w17 x1_17 x2_17) (fun z => FR [42] v z.2) := by
    intro n17
    induction n17 with
    | zero => intro w17 x1_17 x2_17 hF_w17 b9 e9; cases e9
    | succ n17 ih17 =>
      intro w17 x1_17 x2_17 hF_w17
      show pk (b_X8_fewest_L17  (g_X8_fewest_L17   n17)  w17 x1_17 x2_17) _
      unfold b_X8_fewest_L17
      refine pk_ite _ (fun c1 => ?_) (fun c1 => ?_)
      · skip
        refine pk_grd _ (fun _ => ?_)
        exact pk_some hF_w17
      · skip
        refine pk_bind0 (fun r4 => ?_)
        refine pk_grd _ (fun _ => ?_)
        refine pk_let (fun v7 ev7 => ?_)
        have hF_v7 : FR [42] v v7 := by rw [ev7]; exact hF_w17.upa (by decide) (by decide)
        exact ih17 v7 x1_17 (x2_17 + 1) hF_v7
  unfold g_X8_fewest
  refine pk_bind0 (fun r9 => ?_)
  refine pk_ite _ (fun c11 => ?_) (fun c11 => ?_)
  · skip
    exact pk_some hF_v
  · skip
    refine pk_bind0 (fun r13 => ?_)
    exact loop17 2000 v r13 0 hF_v
set_option maxHeartbeats 4000000 in
theorem f_X8_march (v : Mm) (a1 : Int32) (a2 : Int32) (a3 : Int32) (a4 : Int32) : pk (g_X8_march v a1 a2 a3 a4) (fun z => FR [204] v z.2) := by
  have hF_v : FR [204] v v := FR.refl _ v
  have loop82 : ∀ (n82 : Nat) (w82 : Mm) (x5_82 : Int32) (x6_82 : Int32) (x7_82 : Int32), FR [204] v w82 → pk (g_X8_march_L82  a1 a2 a3 a4 n82 w82 x5_82 x6_82 x7_82) (fun z => FR [204] v z.2) := by
    intro n82
    induction n82 with
    | zero => intro w82 x5_82 x6_82 x7_82 hF_w82 b9 e9; cases e9
    | succ n82 ih82 =>
      intro w82 x5_82 x6_82 x7_82 hF_w82
      show pk (b_X8_march_L82  (g_X8_march_L82  a1 a2 a3 a4 n82) a1 a2 a3 a4 w82 x5_82 x6_82 x7_82) _
      unfold b_X8_march_L82
      have loop114 : ∀ (n114 : Nat) (w114 : Mm) (x5_114 : Int32) (x6_114 : Int32) (x7_114 : Int32) (x8_114 : Int32), FR [204] v w114 → pk (g_X8_march_L114 (g_X8_march_L82  a1 a2 a3 a4 n82) a1 a2 a3 a4 n114 w114 x5_114 x6_114 x7_114 x8_114) (fun z => FR [204] v z.2) := by
        intro n114
        induction n114 with
        | zero => intro w114 x5_114 x6_114 x7_114 x8_114 hF_w114 b9 e9; cases e9
        | succ n114 ih114 =>
          intro w114 x5_114 x6_114 x7_114 x8_114 hF_w114
          show pk (b_X8_march_L114 (g_X8_march_L82  a1 a2 a3 a4 n82) (g_X8_march_L114 (g_X8_march_L82  a1 a2 a3 a4 n82) a1 a2 a3 a4 n114) a1 a2 a3 a4 w114 x5_114 x6_114 x7_114 x8_114) _
          unfold b_X8_march_L114
          refine pk_ite _ (fun c1 => ?_) (fun c1 => ?_)
          · skip
            refine pk_ite _ (fun c2 => ?_) (fun c2 => ?_)
            · skip
              exact ih82 w114 x5_114 x5_114 (x7_114 + 1) hF_w114
            · skip
              refine pk_ite _ (fun c3 => ?_) (fun c3 => ?_)
              · skip
                exact ih82 w114 x5_114 x5_114 (x7_114 + 1) hF_w114
              · skip
                exact ih82 w114 x5_114 x6_114 (x7_114 + 1) hF_w114
          · skip
            refine pk_bind0 (fun r5 => ?_)
            refine pk_ite _ (fun c7 => ?_) (fun c7 => ?_)
            · skip
              exact ih114 w114 (x5_114 + 1) x6_114 x7_114 x8_114 hF_w114
            · skip
              refine pk_bind0 (fun r9 => ?_)
              refine pk_ite _ (fun c11 => ?_) (fun c11 => ?_)
              · skip
                refine pk_ite _ (fun c12 => ?_) (fun c12 => ?_)
                · skip
                  exact ih82 w114 x5_114 x5_114 (x7_114 + 1) hF_w114
                · skip
                  refine pk_ite _ (fun c13 => ?_) (fun c13 => ?_)
                  · skip
                    exact ih82 w114 x5_114 x5_114 (x7_114 + 1) hF_w114
                  · skip
                    exact ih82 w114 x5_114 x6_114 (x7_114 + 1) hF_w114
              · skip
                exact ih114 w114 (x5_114 + 1) x6_114 x7_114 x8_114 hF_w114
      refine pk_ite _ (fun c14 => ?_) (fun c14 => ?_)
      · skip
        refine pk_ite _ (fun c15 => ?_) (fun c15 => ?_)
        · skip
          refine pk_kb2 (f_X8_well w82 (-1000000)) (fun r17 v18 hv18 => ?_)
          have hF_v18 := hF_w82.tr hv18 (by decide)
          exact pk_some hF_v18
        · skip
          refine pk_kb2 (f_X8_well w82 x6_82) (fun r20 v21 hv21 => ?_)
          have hF_v21 := hF_w82.tr hv21 (by decide)
          exact pk_some hF_v21
      · skip
        refine pk_ite _ (fun c22 => ?_) (fun c22 => ?_)
        · skip
          refine pk_ite _ (fun c23 => ?_) (fun c23 => ?_)
          · skip
            refine pk_kb2 (f_X8_well w82 (-1000000)) (fun r25 v26 hv26 => ?_)
            have hF_v26 := hF_w82.tr hv26 (by decide)
            exact pk_some hF_v26
          · skip
            refine pk_kb2 (f_X8_well w82 x6_82) (fun r28 v29 hv29 => ?_)
            have hF_v29 := hF_w82.tr hv29 (by decide)
            exact pk_some hF_v29
        · skip
          refine pk_grd _ (fun _ => ?_)
          refine pk_let (fun x31 ex31 => ?_)
          exact loop114 2000 w82 (x5_82 + 1) x6_82 x7_82 x31 hF_w82
  unfold g_X8_march
  refine pk_bind0 (fun r33 => ?_)
  refine pk_ite _ (fun c35 => ?_) (fun c35 => ?_)
  · skip
    exact pk_some hF_v
  · skip
    refine pk_bind0 (fun r37 => ?_)
    refine pk_ite _ (fun c39 => ?_) (fun c39 => ?_)
    · skip
      exact pk_some hF_v
    · skip
      refine pk_bind0 (fun r41 => ?_)
      refine pk_ite _ (fun c43 => ?_) (fun c43 => ?_)
      · skip
        exact pk_some hF_v
      · skip
        refine pk_bind0 (fun r45 => ?_)
        refine pk_ite _ (fun c47 => ?_) (fun c47 => ?_)
        · skip
          exact pk_some hF_v
        · skip
          refine pk_bind0 (fun r49 => ?_)
          refine pk_ite _ (fun c51 => ?_) (fun c51 => ?_)
          · skip
            refine pk_bind0 (fun r53 => ?_)
            refine pk_ite _ (fun c55 => ?_) (fun c55 => ?_)
            · skip
              refine pk_kb2 (f_X8_found v 2) (fun r57 v58 hv58 => ?_)
              have hF_v58 := hF_v.tr hv58 (by decide)
              exact pk_some hF_v58
            · skip
              exact loop82 2000 v (-1) (-1000000) 0 hF_v
          · skip
            refine pk_kb2 (f_X8_found v 1) (fun r60 v61 hv61 => ?_)
            have hF_v61 := hF_v.tr hv61 (by decide)
            exact pk_some hF_v61
set_option maxHeartbeats 4000000 in
theorem f_X8_rules (v : Mm) (a1 : Int32) (a2 : Int32) (a3 : Int32) (a4 : Int32) : pk (g_X8_rules v a1 a2 a3 a4) (fun z => FR [38, 204] v z.2) := by
  have hF_v : FR [38, 204] v v := FR.refl _ v
  have loop76 : ∀ (n76 : Nat) (w76 : Mm) (x5_76 : Int32) (x6_76 : Int32), FR [38, 204] v w76 → pk (g_X8_rules_L76  a1 a2 a3 a4 n76 w76 x5_76 x6_76) (fun z => FR [38, 204] v z.2) := by
    intro n76
    induction n76 with
    | zero => intro w76 x5_76 x6_76 hF_w76 b9 e9; cases e9
    | succ n76 ih76 =>
      intro w76 x5_76 x6_76 hF_w76
      show pk (b_X8_rules_L76  (g_X8_rules_L76  a1 a2 a3 a4 n76) a1 a2 a3 a4 w76 x5_76 x6_76) _
      unfold b_X8_rules_L76
      have loop122 : ∀ (n122 : Nat) (w122 : Mm) (x5_122 : Int32) (x6_122 : Int32) (x7_122 : Int32) (x8_122 : Int32), FR [38, 204] v w122 → pk (g_X8_rules_L122 (g_X8_rules_L76  a1 a2 a3 a4 n76) a1 a2 a3 a4 n122 w122 x5_122 x6_122 x7_122 x8_122) (fun z => FR [38, 204] v z.2) := by
        intro n122
        induction n122 with
        | zero => intro w122 x5_122 x6_122 x7_122 x8_122 hF_w122 b9 e9; cases e9
        | succ n122 ih122 =>
          intro w122 x5_122 x6_122 x7_122 x8_122 hF_w122
          show pk (b_X8_rules_L122 (g_X8_rules_L76  a1 a2 a3 a4 n76) (g_X8_rules_L122 (g_X8_rules_L76  a1 a2 a3 a4 n76) a1 a2 a3 a4 n122) a1 a2 a3 a4 w122 x5_122 x6_122 x7_122 x8_122) _
          unfold b_X8_rules_L122
          refine pk_ite _ (fun c1 => ?_) (fun c1 => ?_)
          · skip
            refine pk_ite _ (fun c2 => ?_) (fun c2 => ?_)
            · skip
              exact ih76 w122 (x5_122 ||| 0) (x6_122 + 1) hF_w122
            · skip
              refine pk_let (fun x3 ex3 => ?_)
              exact ih76 w122 x3 (x6_122 + 1) hF_w122
          · skip
            refine pk_ite _ (fun c4 => ?_) (fun c4 => ?_)
            · skip
              exact ih122 w122 x5_122 x6_122 0 (x8_122 + 1) hF_w122
            · skip
              refine pk_bind0 (fun r6 => ?_)
              refine pk_grd _ (fun _ => ?_)
              refine pk_ite _ (fun c9 => ?_) (fun c9 => ?_)
              · skip
                exact ih122 w122 x5_122 x6_122 1 (x8_122 + 1) hF_w122
              · skip
                exact ih122 w122 x5_122 x6_122 0 (x8_122 + 1) hF_w122
      refine pk_ite _ (fun c10 => ?_) (fun c10 => ?_)
      · skip
        refine pk_ite _ (fun c11 => ?_) (fun c11 => ?_)
        · skip
          refine pk_kb2 (f_X8_well w76 x5_76) (fun r13 v14 hv14 => ?_)
          have hF_v14 := hF_w76.tr hv14 (by decide)
          exact pk_some hF_v14
        · skip
          refine pk_bind (f_X8_copies_36_38 w76 0 0) (fun v17 hv17 => ?_)
          have hF_v17 := hF_w76.tr hv17 (by decide)
          refine pk_grd _ (fun _ => ?_)
          refine pk_let (fun v19 ev19 => ?_)
          have hF_v19 : FR [38, 204] v v19 := by rw [ev19]; exact hF_v17.upa (by decide) (by decide)
          exact loop122 2000 v19 x5_76 x6_76 1 0 hF_v19
      · skip
        refine pk_ite _ (fun c20 => ?_) (fun c20 => ?_)
        · skip
          refine pk_kb2 (f_X8_well w76 x5_76) (fun r22 v23 hv23 => ?_)
          have hF_v23 := hF_w76.tr hv23 (by decide)
          exact pk_some hF_v23
        · skip
          refine pk_bind (f_X8_copies_36_38 w76 0 0) (fun v26 hv26 => ?_)
          have hF_v26 := hF_w76.tr hv26 (by decide)
          refine pk_grd _ (fun _ => ?_)
          refine pk_let (fun v28 ev28 => ?_)
          have hF_v28 : FR [38, 204] v v28 := by rw [ev28]; exact hF_v26.upa (by decide) (by decide)
          exact loop122 2000 v28 x5_76 x6_76 1 0 hF_v28
  unfold g_X8_rules
  refine pk_bind0 (fun r30 => ?_)
  refine pk_ite _ (fun c32 => ?_) (fun c32 => ?_)
  · skip
    exact pk_some hF_v
  · skip
    refine pk_bind0 (fun r34 => ?_)
    refine pk_ite _ (fun c36 => ?_) (fun c36 => ?_)
    · skip
      exact pk_some hF_v
    · skip
      refine pk_bind0 (fun r38 => ?_)
      refine pk_ite _ (fun c40 => ?_) (fun c40 => ?_)
      · skip
        exact pk_some hF_v
      · skip
        refine pk_bind0 (fun r42 => ?_)
        refine pk_ite _ (fun c44 => ?_) (fun c44 => ?_)
        · skip
          exact pk_some hF_v
        · skip
          refine pk_bind0 (fun r46 => ?_)
          refine pk_ite _ (fun c48 => ?_) (fun c48 => ?_)
          · skip
            refine pk_bind0 (fun r50 => ?_)
            refine pk_ite _ (fun c52 => ?_) (fun c52 => ?_)
            · skip
              refine pk_kb2 (f_X8_found v 2) (fun r54 v55 hv55 => ?_)
              have hF_v55 := hF_v.tr hv55 (by decide)
              exact pk_some hF_v55
            · skip
              exact loop76 2000 v 0 0 hF_v
          · skip
            refine pk_kb2 (f_X8_found v 1) (fun r57 v58 hv58 => ?_)
            have hF_v58 := hF_v.tr hv58 (by decide)
            exact pk_some hF_v58
set_option maxHeartbeats 4000000 in
theorem f_X8_fits (v : Mm) (a1 : Int32) (a2 : Int32) (a3 : Int32) (a4 : Int32) : pk (g_X8_fits v a1 a2 a3 a4) (fun z => FR [204] v z.2) := by
  have hF_v : FR [204] v v := FR.refl _ v
  have loop135 : ∀ (n135 : Nat) (w135 : Mm) (x5_135 : Int32) (x6_135 : Int32) (x7_135 : Int32), FR [204] v w135 → pk (g_X8_fits_L135  a1 a2 a3 a4 n135 w135 x5_135 x6_135 x7_135) (fun z => FR [204] v z.2) := by
    intro n135
    induction n135 with
    | zero => intro w135 x5_135 x6_135 x7_135 hF_w135 b9 e9; cases e9
    | succ n135 ih135 =>
      intro w135 x5_135 x6_135 x7_135 hF_w135
      show pk (b_X8_fits_L135  (g_X8_fits_L135  a1 a2 a3 a4 n135) a1 a2 a3 a4 w135 x5_135 x6_135 x7_135) _
      unfold b_X8_fits_L135
      refine pk_ite _ (fun c1 => ?_) (fun c1 => ?_)
      · skip
        refine pk_kb2 (f_X8_well w135 x6_135) (fun r3 v4 hv4 => ?_)
        have hF_v4 := hF_w135.tr hv4 (by decide)
        exact pk_some hF_v4
      · skip
        refine pk_ite _ (fun c5 => ?_) (fun c5 => ?_)
        · skip
          refine pk_bind0 (fun r7 => ?_)
          refine pk_bind0 (fun r10 => ?_)
          refine pk_ite _ (fun c12 => ?_) (fun c12 => ?_)
          · skip
            exact ih135 w135 x5_135 (x6_135 ||| 0) (x7_135 + 1) hF_w135
          · skip
            refine pk_let (fun x13 ex13 => ?_)
            exact ih135 w135 x5_135 x13 (x7_135 + 1) hF_w135
        · skip
          refine pk_kb2 (f_X8_well w135 x6_135) (fun r15 v16 hv16 => ?_)
          have hF_v16 := hF_w135.tr hv16 (by decide)
          exact pk_some hF_v16
  have loop77 : ∀ (n77 : Nat) (w77 : Mm) (x5_77 : Int32) (x6_77 : Int32) (x7_77 : Int32), FR [204] v w77 → pk (g_X8_fits_L77  a1 a2 a3 a4 n77 w77 x5_77 x6_77 x7_77) (fun z => FR [204] v z.2) := by
    intro n77
    induction n77 with
    | zero => intro w77 x5_77 x6_77 x7_77 hF_w77 b9 e9; cases e9
    | succ n77 ih77 =>
      intro w77 x5_77 x6_77 x7_77 hF_w77
      show pk (b_X8_fits_L77  (g_X8_fits_L77  a1 a2 a3 a4 n77) a1 a2 a3 a4 w77 x5_77 x6_77 x7_77) _
      unfold b_X8_fits_L77
      refine pk_ite _ (fun c17 => ?_) (fun c17 => ?_)
      · skip
        exact loop135 2000 w77 x5_77 x6_77 0 hF_w77
      · skip
        refine pk_ite _ (fun c18 => ?_) (fun c18 => ?_)
        · skip
          refine pk_bind0 (fun r20 => ?_)
          refine pk_bind0 (fun r23 => ?_)
          refine pk_ite _ (fun c25 => ?_) (fun c25 => ?_)
          · skip
            exact ih77 w77 x5_77 (x6_77 ||| 0) (x7_77 + 1) hF_w77
          · skip
            refine pk_let (fun x26 ex26 => ?_)
            exact ih77 w77 x5_77 x26 (x7_77 + 1) hF_w77
        · skip
          exact loop135 2000 w77 x5_77 x6_77 0 hF_w77
  unfold g_X8_fits
  refine pk_bind0 (fun r28 => ?_)
  refine pk_ite _ (fun c30 => ?_) (fun c30 => ?_)
  · skip
    exact pk_some hF_v
  · skip
    refine pk_bind0 (fun r32 => ?_)
    refine pk_ite _ (fun c34 => ?_) (fun c34 => ?_)
    · skip
      exact pk_some hF_v
    · skip
      refine pk_bind0 (fun r36 => ?_)
      refine pk_ite _ (fun c38 => ?_) (fun c38 => ?_)
      · skip
        exact pk_some hF_v
      · skip
        refine pk_bind0 (fun r40 => ?_)
        refine pk_ite _ (fun c42 => ?_) (fun c42 => ?_)
        · skip
          refine pk_bind0 (fun r44 => ?_)
          refine pk_ite _ (fun c46 => ?_) (fun c46 => ?_)
          · skip
            refine pk_kb2 (f_X8_found v 2) (fun r48 v49 hv49 => ?_)
            have hF_v49 := hF_v.tr hv49 (by decide)
            exact pk_some hF_v49
          · skip
            exact loop77 2000 v (((40 : Int32) * a2) + a3) 0 1 hF_v
        · skip
          refine pk_kb2 (f_X8_found v 1) (fun r51 v52 hv52 => ?_)
          have hF_v52 := hF_v.tr hv52 (by decide)
          exact pk_some hF_v52
set_option maxHeartbeats 4000000 in
theorem f_X8_image (v : Mm) (a1 : Int32) : pk (g_X8_image v a1) (fun z => FR [40, 41] v z.2) := by
  have hF_v : FR [40, 41] v v := FR.refl _ v
  unfold g_X8_image
  refine pk_bind0 (fun r2 => ?_)
  refine pk_ite _ (fun c4 => ?_) (fun c4 => ?_)
  · skip
    exact pk_some hF_v
  · skip
    refine pk_bind0 (fun r6 => ?_)
    refine pk_ite _ (fun c8 => ?_) (fun c8 => ?_)
    · skip
      exact pk_some hF_v
    · skip
      refine pk_bind (f_X8_copies_36_40 v 0 ((65 : Int32) * a1)) (fun v11 hv11 => ?_)
      have hF_v11 := hF_v.tr hv11 (by decide)
      refine pk_grd _ (fun _ => ?_)
      refine pk_let (fun v13 ev13 => ?_)
      have hF_v13 : FR [40, 41] v v13 := by rw [ev13]; exact hF_v11.upa (by decide) (by decide)
      exact pk_some hF_v13
set_option maxHeartbeats 4000000 in
theorem f_X8_restore (v : Mm) (a1 : Int32) : pk (g_X8_restore v a1) (fun z => FR [36, 217] v z.2) := by
  have hF_v : FR [36, 217] v v := FR.refl _ v
  unfold g_X8_restore
  refine pk_bind0 (fun r2 => ?_)
  refine pk_ite _ (fun c4 => ?_) (fun c4 => ?_)
  · skip
    exact pk_some hF_v
  · skip
    refine pk_grd _ (fun _ => ?_)
    refine pk_ite _ (fun c6 => ?_) (fun c6 => ?_)
    · skip
      exact pk_some hF_v
    · skip
      refine pk_bind (f_X8_copies_40_36 v ((65 : Int32) * a1) 0) (fun v9 hv9 => ?_)
      have hF_v9 := hF_v.tr hv9 (by decide)
      refine pk_let (fun v10 ev10 => ?_)
      have hF_v10 : FR [36, 217] v v10 := by rw [ev10]; exact hF_v9.upf (by decide)
      exact pk_some hF_v10
set_option maxHeartbeats 4000000 in
theorem f_X8_as (v : Mm) (a1 : Int32) (a2 : Int32) : pk (g_X8_as v a1 a2) (fun z => FR [204] v z.2) := by
  have hF_v : FR [204] v v := FR.refl _ v
  unfold g_X8_as
  refine pk_bind0 (fun r2 => ?_)
  refine pk_ite _ (fun c4 => ?_) (fun c4 => ?_)
  · skip
    exact pk_some hF_v
  · skip
    refine pk_bind0 (fun r6 => ?_)
    refine pk_ite _ (fun c8 => ?_) (fun c8 => ?_)
    · skip
      exact pk_some hF_v
    · skip
      refine pk_bind0 (fun r10 => ?_)
      refine pk_ite _ (fun c12 => ?_) (fun c12 => ?_)
      · skip
        refine pk_kb2 (f_X8_well v a1) (fun r15 v16 hv16 => ?_)
        have hF_v16 := hF_v.tr hv16 (by decide)
        exact pk_some hF_v16
      · skip
        refine pk_ite _ (fun c17 => ?_) (fun c17 => ?_)
        · skip
          refine pk_kb2 (f_X8_well v a1) (fun r20 v21 hv21 => ?_)
          have hF_v21 := hF_v.tr hv21 (by decide)
          exact pk_some hF_v21
        · skip
          refine pk_ite _ (fun c22 => ?_) (fun c22 => ?_)
          · skip
            refine pk_ite _ (fun c23 => ?_) (fun c23 => ?_)
            · skip
              refine pk_kb2 (f_X8_well v a1) (fun r26 v27 hv27 => ?_)
              have hF_v27 := hF_v.tr hv27 (by decide)
              exact pk_some hF_v27
            · skip
              refine pk_ite _ (fun c28 => ?_) (fun c28 => ?_)
              · skip
                refine pk_ite _ (fun c29 => ?_) (fun c29 => ?_)
                · skip
                  refine pk_kb2 (f_X8_well v a1) (fun r32 v33 hv33 => ?_)
                  have hF_v33 := hF_v.tr hv33 (by decide)
                  exact pk_some hF_v33
                · skip
                  refine pk_kb2 (f_X8_found v 3) (fun r36 v37 hv37 => ?_)
                  have hF_v37 := hF_v.tr hv37 (by decide)
                  exact pk_some hF_v37
              · skip
                refine pk_kb2 (f_X8_found v 3) (fun r40 v41 hv41 => ?_)
                have hF_v41 := hF_v.tr hv41 (by decide)
                exact pk_some hF_v41
          · skip
            refine pk_ite _ (fun c42 => ?_) (fun c42 => ?_)
            · skip
              refine pk_ite _ (fun c43 => ?_) (fun c43 => ?_)
              · skip
                refine pk_kb2 (f_X8_well v a1) (fun r46 v47 hv47 => ?_)
                have hF_v47 := hF_v.tr hv47 (by decide)
                exact pk_some hF_v47
              · skip
                refine pk_kb2 (f_X8_found v 3) (fun r50 v51 hv51 => ?_)
                have hF_v51 := hF_v.tr hv51 (by decide)
                exact pk_some hF_v51
            · skip
              refine pk_kb2 (f_X8_found v 3) (fun r54 v55 hv55 => ?_)
              have hF_v55 := hF_v.tr hv55 (by decide)
              exact pk_some hF_v55
set_option maxHeartbeats 4000000 in
theorem f_X8_begins (v : Mm) (a1 : Int32) : pk (g_X8_begins v a1) (fun z => FR [43, 222] v z) := by
  have hF_v : FR [43, 222] v v := FR.refl _ v
  unfold g_X8_begins
  refine pk_ite _ (fun c1 => ?_) (fun c1 => ?_)
  · skip
    exact pk_some hF_v
  · skip
    refine pk_grd _ (fun _ => ?_)
    refine pk_let (fun v3 ev3 => ?_)
    have hF_v3 : FR [43, 222] v v3 := by rw [ev3]; exact hF_v.upa (by decide) (by decide)
    refine pk_let (fun v4 ev4 => ?_)
    have hF_v4 : FR [43, 222] v v4 := by rw [ev4]; exact hF_v3.upf (by decide)
    exact pk_some hF_v4
set_option maxHeartbeats 4000000 in
theorem f_X8_keenMark (v : Mm) (a1 : Int32) : pk (g_X8_keenMark v a1) (fun z => FR [43, 222] v z.2) := by
  have hF_v : FR [43, 222] v v := FR.refl _ v
  unfold g_X8_keenMark
  refine pk_bind0 (fun r2 => ?_)
  refine pk_ite _ (fun c4 => ?_) (fun c4 => ?_)
  · skip
    refine pk_bind (f_X8_begins v 21) (fun v7 hv7 => ?_)
    have hF_v7 := hF_v.tr hv7 (by decide)
    refine pk_bind (f_X8_begins v7 20) (fun v10 hv10 => ?_)
    have hF_v10 := hF_v7.tr hv10 (by decide)
    refine pk_grd _ (fun _ => ?_)
    refine pk_let (fun x12 ex12 => ?_)
    refine pk_ite _ (fun c13 => ?_) (fun c13 => ?_)
    · skip
      exact pk_some hF_v10
    · skip
      refine pk_ite _ (fun c14 => ?_) (fun c14 => ?_)
      · skip
        exact pk_some hF_v10
      · skip
        exact pk_some hF_v10
  · skip
    refine pk_ite _ (fun c15 => ?_) (fun c15 => ?_)
    · skip
      refine pk_bind (f_X8_begins v 24) (fun v18 hv18 => ?_)
      have hF_v18 := hF_v.tr hv18 (by decide)
      refine pk_bind (f_X8_begins v18 21) (fun v21 hv21 => ?_)
      have hF_v21 := hF_v18.tr hv21 (by decide)
      refine pk_bind (f_X8_begins v21 20) (fun v24 hv24 => ?_)
      have hF_v24 := hF_v21.tr hv24 (by decide)
      refine pk_grd _ (fun _ => ?_)
      refine pk_let (fun x26 ex26 => ?_)
      refine pk_ite _ (fun c27 => ?_) (fun c27 => ?_)
      · skip
        exact pk_some hF_v24
      · skip
        refine pk_ite _ (fun c28 => ?_) (fun c28 => ?_)
        · skip
          exact pk_some hF_v24
        · skip
          exact pk_some hF_v24
    · skip
      refine pk_bind (f_X8_begins v 22) (fun v31 hv31 => ?_)
      have hF_v31 := hF_v.tr hv31 (by decide)
      refine pk_bind (f_X8_begins v31 21) (fun v34 hv34 => ?_)
      have hF_v34 := hF_v31.tr hv34 (by decide)
      refine pk_bind (f_X8_begins v34 20) (fun v37 hv37 => ?_)
      have hF_v37 := hF_v34.tr hv37 (by decide)
      refine pk_grd _ (fun _ => ?_)
      refine pk_let (fun x39 ex39 => ?_)
      refine pk_ite _ (fun c40 => ?_) (fun c40 => ?_)
      · skip
        exact pk_some hF_v37
      · skip
        refine pk_ite _ (fun c41 => ?_) (fun c41 => ?_)
        · skip
          exact pk_some hF_v37
        · skip
          exact pk_some hF_v37
set_option maxHeartbeats 4000000 in
theorem f_X8_deafSize (v : Mm) (a1 : Int32) : pk (g_X8_deafSize v a1) (fun z => FR [43, 222] v z.2) := by
  have hF_v : FR [43, 222] v v := FR.refl _ v
  unfold g_X8_deafSize
  refine pk_bind0 (fun r2 => ?_)
  refine pk_ite _ (fun c4 => ?_) (fun c4 => ?_)
  · skip
    refine pk_bind (f_X8_begins v 14) (fun v8 hv8 => ?_)
    have hF_v8 := hF_v.tr hv8 (by decide)
    refine pk_bind (f_X8_begins v8 13) (fun v11 hv11 => ?_)
    have hF_v11 := hF_v8.tr hv11 (by decide)
    refine pk_bind (f_X8_begins v11 10) (fun v14 hv14 => ?_)
    have hF_v14 := hF_v11.tr hv14 (by decide)
    refine pk_grd _ (fun _ => ?_)
    refine pk_let (fun x16 ex16 => ?_)
    exact pk_some hF_v14
  · skip
    refine pk_bind (f_X8_begins v 13) (fun v21 hv21 => ?_)
    have hF_v21 := hF_v.tr hv21 (by decide)
    refine pk_bind (f_X8_begins v21 10) (fun v24 hv24 => ?_)
    have hF_v24 := hF_v21.tr hv24 (by decide)
    refine pk_grd _ (fun _ => ?_)
    refine pk_let (fun x26 ex26 => ?_)
    exact pk_some hF_v24
set_option maxHeartbeats 4000000 in
theorem f_X8_keenSize (v : Mm) (a1 : Int32) : pk (g_X8_keenSize v a1) (fun z => FR [43, 222] v z.2) := by
  have hF_v : FR [43, 222] v v := FR.refl _ v
  unfold g_X8_keenSize
  refine pk_bind0 (fun r2 => ?_)
  refine pk_ite _ (fun c4 => ?_) (fun c4 => ?_)
  · skip
    refine pk_bind (f_X8_begins v 12) (fun v8 hv8 => ?_)
    have hF_v8 := hF_v.tr hv8 (by decide)
    refine pk_bind (f_X8_begins v8 11) (fun v11 hv11 => ?_)
    have hF_v11 := hF_v8.tr hv11 (by decide)
    refine pk_bind (f_X8_begins v11 10) (fun v14 hv14 => ?_)
    have hF_v14 := hF_v11.tr hv14 (by decide)
    refine pk_grd _ (fun _ => ?_)
    refine pk_kb2 (f_X8_keenMark v14 a1) (fun r17 v18 hv18 => ?_)
    have hF_v18 := hF_v14.tr hv18 (by decide)
    refine pk_let (fun x19 ex19 => ?_)
    exact pk_some hF_v18
  · skip
    refine pk_bind (f_X8_begins v 11) (fun v24 hv24 => ?_)
    have hF_v24 := hF_v.tr hv24 (by decide)
    refine pk_bind (f_X8_begins v24 10) (fun v27 hv27 => ?_)
    have hF_v27 := hF_v24.tr hv27 (by decide)
    refine pk_grd _ (fun _ => ?_)
    refine pk_kb2 (f_X8_keenMark v27 a1) (fun r30 v31 hv31 => ?_)
    have hF_v31 := hF_v27.tr hv31 (by decide)
    refine pk_let (fun x32 ex32 => ?_)
    exact pk_some hF_v31
set_option maxHeartbeats 4000000 in
theorem f_X8_deafMark (v : Mm) (a1 : Int32) : pk (g_X8_deafMark v a1) (fun z => FR [43, 222] v z.2) := by
  have hF_v : FR [43, 222] v v := FR.refl _ v
  unfold g_X8_deafMark
  refine pk_bind (f_X8_begins v 23) (fun v3 hv3 => ?_)
  have hF_v3 := hF_v.tr hv3 (by decide)
  refine pk_bind (f_X8_begins v3 20) (fun v6 hv6 => ?_)
  have hF_v6 := hF_v3.tr hv6 (by decide)
  refine pk_kb2 (f_X8_deafSize v6 a1) (fun r8 v9 hv9 => ?_)
  have hF_v9 := hF_v6.tr hv9 (by decide)
  exact pk_some hF_v9
set_option maxHeartbeats 4000000 in
theorem f_X8_ask (v : Mm) (a1 : Int32) (a2 : Int32) : pk (g_X8_ask v a1 a2) (fun z => FR [43, 222] v z.2) := by
  have hF_v : FR [43, 222] v v := FR.refl _ v
  unfold g_X8_ask
  refine pk_bind0 (fun r2 => ?_)
  refine pk_ite _ (fun c4 => ?_) (fun c4 => ?_)
  · skip
    exact pk_some hF_v
  · skip
    refine pk_bind0 (fun r6 => ?_)
    refine pk_ite _ (fun c8 => ?_) (fun c8 => ?_)
    · skip
      exact pk_some hF_v
    · skip
      refine pk_let (fun v9 ev9 => ?_)
      have hF_v9 : FR [43, 222] v v9 := by rw [ev9]; exact hF_v.upf (by decide)
      refine pk_bind0 (fun r11 => ?_)
      refine pk_ite _ (fun c13 => ?_) (fun c13 => ?_)
      · skip
        refine pk_ite _ (fun c14 => ?_) (fun c14 => ?_)
        · skip
          refine pk_kb2 (f_X8_keenSize v9 a1) (fun r17 v18 hv18 => ?_)
          have hF_v18 := hF_v9.tr hv18 (by decide)
          exact pk_some hF_v18
        · skip
          refine pk_kb2 (f_X8_keenMark v9 a1) (fun r21 v22 hv22 => ?_)
          have hF_v22 := hF_v9.tr hv22 (by decide)
          exact pk_some hF_v22
      · skip
        refine pk_ite _ (fun c23 => ?_) (fun c23 => ?_)
        · skip
          refine pk_kb2 (f_X8_deafSize v9 a1) (fun r26 v27 hv27 => ?_)
          have hF_v27 := hF_v9.tr hv27 (by decide)
          exact pk_some hF_v27
        · skip
          refine pk_kb2 (f_X8_deafMark v9 a1) (fun r30 v31 hv31 => ?_)
          have hF_v31 := hF_v9.tr hv31 (by decide)
          exact pk_some hF_v31
set_option maxHeartbeats 4000000 in
theorem fz_X8_gate (v : Mm)  : pk (g_X8_gate v ) (fun z => z.2 30 0 6 = 0) := by
  have join253 : ∀ (w253 : Mm) (x1_253 : Int32), pk (Option.bind (some (up3 w253 30 0 6 0)) (fun v1 => Option.bind (g_X8_isWell v1) (fun r3 => if r3 = 0 then (some (((-1000100)) - (v1 30 0 8), v1)) else (Option.bind (g_X8_copies_37_36 v1 0 0) (fun v8 => Option.bind (some (up3 v8 30 0 17 0)) (fun v9 => some (v9 36 0 (Int32.toNatClampNeg 3), v9))))))) (fun z => z.2 30 0 6 = 0) := by
    intro w253 x1_253
    refine pk_let (fun v10 ev10 => ?_)
    have hz_v10 : v10 30 0 6 = 0 := by rw [ev10]; exact up3_s
    refine pk_bind0 (fun r12 => ?_)
    refine pk_ite _ (fun c14 => ?_) (fun c14 => ?_)
    · skip
      exact pk_some hz_v10
    · skip
      refine pk_bind (f_X8_copies_37_36 v10 0 0) (fun v17 hv17 => ?_)
      have hz_v17 : v17 30 0 6 = 0 := (hv17 30 0 6 (by decide)).trans hz_v10
      refine pk_let (fun v18 ev18 => ?_)
      have hz_v18 : v18 30 0 6 = 0 := by rw [ev18, up3_j (by decide)]; exact hz_v17
      exact pk_some hz_v18
  have join237 : ∀ (w237 : Mm) (x1_237 : Int32), pk (if w237 30 0 11 = 0 then (Option.bind (g_X8_must w237 1) (fun v22 => Option.bind (some (up3 v22 30 0 6 0)) (fun v23 => Option.bind (g_X8_isWell v23) (fun r25 => if r25 = 0 then (some (((-1000100)) - (v23 30 0 8), v23)) else (Option.bind (g_X8_copies_37_36 v23 0 0) (fun v30 => Option.bind (some (up3 v30 30 0 17 0)) (fun v31 => some (v31 36 0 (Int32.toNatClampNeg 3), v31)))))))) else (Option.bind (g_X8_must w237 0) (fun v34 => Option.bind (some (up3 v34 30 0 6 0)) (fun v35 => Option.bind (g_X8_isWell v35) (fun r37 => if r37 = 0 then (some (((-1000100)) - (v35 30 0 8), v35)) else (Option.bind (g_X8_copies_37_36 v35 0 0) (fun v42 => Option.bind (some (up3 v42 30 0 17 0)) (fun v43 => some (v43 36 0 (Int32.toNatClampNeg 3), v43))))))))) (fun z => z.2 30 0 6 = 0) := by
    intro w237 x1_237
    refine pk_ite _ (fun c44 => ?_) (fun c44 => ?_)
    · skip
      refine pk_bind0 (fun v47 => ?_)
      exact join253 v47 x1_237
    · skip
      refine pk_bind0 (fun v50 => ?_)
      exact join253 v50 x1_237
  have loop205 : ∀ (n205 : Nat) (w205 : Mm) (x1_205 : Int32), pk (g_X8_gate_L205   n205 w205 x1_205) (fun z => z.2 30 0 6 = 0) := by
    intro n205
    induction n205 with
    | zero => intro w205 x1_205 b9 e9; cases e9
    | succ n205 ih205 =>
      intro w205 x1_205
      show pk (b_X8_gate_L205  (g_X8_gate_L205   n205)  w205 x1_205) _
      unfold b_X8_gate_L205
      refine pk_bind0 (fun r52 => ?_)
      refine pk_ite _ (fun c54 => ?_) (fun c54 => ?_)
      · skip
        exact join237 w205 x1_205
      · skip
        refine pk_ite _ (fun c55 => ?_) (fun c55 => ?_)
        · skip
          refine pk_bind0 (fun r57 => ?_)
          refine pk_ite _ (fun c59 => ?_) (fun c59 => ?_)
          · skip
            exact join237 w205 x1_205
          · skip
            refine pk_bind0 (fun v62 => ?_)
            exact ih205 v62 x1_205
        · skip
          exact join237 w205 x1_205
  have join178 : ∀ (w178 : Mm) (x1_178 : Int32), pk (if w178 30 0 11 = 1 then (Option.bind (g_X8_kindOf w178 (w178 30 0 12)) (fun r65 => if r65 ≤ 0 then (Option.bind (g_X8_must w178 0) (fun v70 => g_X8_gate_L205   2000 v70 x1_178)) else (Option.bind (g_X8_must w178 1) (fun v73 => g_X8_gate_L205   2000 v73 x1_178)))) else (Option.bind (g_X8_must w178 0) (fun v76 => g_X8_gate_L205   2000 v76 x1_178))) (fun z => z.2 30 0 6 = 0) := by
    intro w178 x1_178
    refine pk_ite _ (fun c77 => ?_) (fun c77 => ?_)
    · skip
      refine pk_bind0 (fun r79 => ?_)
      refine pk_ite _ (fun c81 => ?_) (fun c81 => ?_)
      · skip
        refine pk_bind0 (fun v84 => ?_)
        exact loop205 2000 v84 x1_178
      · skip
        refine pk_bind0 (fun v87 => ?_)
        exact loop205 2000 v87 x1_178
    · skip
      refine pk_bind0 (fun v90 => ?_)
      exact loop205 2000 v90 x1_178
  have loop147 : ∀ (n147 : Nat) (w147 : Mm) (x1_147 : Int32), pk (g_X8_gate_L147   n147 w147 x1_147) (fun z => z.2 30 0 6 = 0) := by
    intro n147
    induction n147 with
    | zero => intro w147 x1_147 b9 e9; cases e9
    | succ n147 ih147 =>
      intro w147 x1_147
      show pk (b_X8_gate_L147  (g_X8_gate_L147   n147)  w147 x1_147) _
      unfold b_X8_gate_L147
      refine pk_bind0 (fun r92 => ?_)
      refine pk_ite _ (fun c94 => ?_) (fun c94 => ?_)
      · skip
        exact join178 w147 x1_147
      · skip
        refine pk_ite _ (fun c95 => ?_) (fun c95 => ?_)
        · skip
          refine pk_ite _ (fun c96 => ?_) (fun c96 => ?_)
          · skip
            refine pk_bind0 (fun v99 => ?_)
            exact ih147 v99 x1_147
          · skip
            exact join178 w147 x1_147
        · skip
          exact join178 w147 x1_147
  have join121 : ∀ (w121 : Mm) (x1_121 : Int32), pk (if w121 30 0 11 = 1 then (if w121 30 0 12 = 119 then (Option.bind (g_X8_must w121 1) (fun v104 => g_X8_gate_L147   2000 v104 x1_121)) else (Option.bind (g_X8_must w121 0) (fun v107 => g_X8_gate_L147   2000 v107 x1_121))) else (Option.bind (g_X8_must w121 0) (fun v110 => g_X8_gate_L147   2000 v110 x1_121))) (fun z => z.2 30 0 6 = 0) := by
    intro w121 x1_121
    refine pk_ite _ (fun c111 => ?_) (fun c111 => ?_)
    · skip
      refine pk_ite _ (fun c112 => ?_) (fun c112 => ?_)
      · skip
        refine pk_bind0 (fun v115 => ?_)
        exact loop147 2000 v115 x1_121
      · skip
        refine pk_bind0 (fun v118 => ?_)
        exact loop147 2000 v118 x1_121
    · skip
      refine pk_bind0 (fun v121 => ?_)
      exact loop147 2000 v121 x1_121
  have join63 : ∀ (w63 : Mm) (x1_63 : Int32), pk (kb2 (g_X8_figure w63 0 9) (fun r123 v124 => Option.bind (some (up3 v124 37 0 (Int32.toNatClampNeg 0) r123)) (fun v125 => kb2 (g_X8_follows v125 0 9) (fun r127 v128 => Option.bind (some (up3 v128 37 0 (Int32.toNatClampNeg 1) r127)) (fun v129 => kb2 (g_X8_follows v129 0 6) (fun r131 v132 => Option.bind (some (up3 v132 37 0 (Int32.toNatClampNeg 2) r131)) (fun v133 => if v133 30 0 11 = 4 then (kb2 (g_X8_takes v133 1 1) (fun r136 v137 => if v137 30 0 11 = 1 then (if v137 30 0 12 = 119 then (Option.bind (g_X8_must v137 1) (fun v142 => g_X8_gate_L147   2000 v142 x1_63)) else (Option.bind (g_X8_must v137 0) (fun v145 => g_X8_gate_L147   2000 v145 x1_63))) else (Option.bind (g_X8_must v137 0) (fun v148 => g_X8_gate_L147   2000 v148 x1_63)))) else (kb2 (g_X8_takes v133 0 1) (fun r150 v151 => if v151 30 0 11 = 1 then (if v151 30 0 12 = 119 then (Option.bind (g_X8_must v151 1) (fun v156 => g_X8_gate_L147   2000 v156 x1_63)) else (Option.bind (g_X8_must v151 0) (fun v159 => g_X8_gate_L147   2000 v159 x1_63))) else (Option.bind (g_X8_must v151 0) (fun v162 => g_X8_gate_L147   2000 v162 x1_63))))))))))) (fun z => z.2 30 0 6 = 0) := by
    intro w63 x1_63
    refine pk_bind0 (fun zv165 => ?_)
    obtain ⟨r164, v165⟩ := zv165
    refine pk_let (fun v166 ev166 => ?_)
    refine pk_bind0 (fun zv169 => ?_)
    obtain ⟨r168, v169⟩ := zv169
    refine pk_let (fun v170 ev170 => ?_)
    refine pk_bind0 (fun zv173 => ?_)
    obtain ⟨r172, v173⟩ := zv173
    refine pk_let (fun v174 ev174 => ?_)
    refine pk_ite _ (fun c175 => ?_) (fun c175 => ?_)
    · skip
      refine pk_bind0 (fun zv178 => ?_)
      obtain ⟨r177, v178⟩ := zv178
      exact join121 v178 x1_63
    · skip
      refine pk_bind0 (fun zv181 => ?_)
      obtain ⟨r180, v181⟩ := zv181
      exact join121 v181 x1_63
  have loop2 : ∀ (n2 : Nat) (w2 : Mm) (x1_2 : Int32), pk (g_X8_gate_L2   n2 w2 x1_2) (fun z => z.2 30 0 6 = 0) := by
    intro n2
    induction n2 with
    | zero => intro w2 x1_2 b9 e9; cases e9
    | succ n2 ih2 =>
      intro w2 x1_2
      show pk (b_X8_gate_L2  (g_X8_gate_L2   n2)  w2 x1_2) _
      unfold b_X8_gate_L2
      refine pk_ite _ (fun c182 => ?_) (fun c182 => ?_)
      · skip
        refine pk_let (fun v183 ev183 => ?_)
        refine pk_let (fun v184 ev184 => ?_)
        refine pk_bind0 (fun v187 => ?_)
        refine pk_ite _ (fun c188 => ?_) (fun c188 => ?_)
        · skip
          refine pk_ite _ (fun c189 => ?_) (fun c189 => ?_)
          · skip
            refine pk_bind0 (fun zv192 => ?_)
            obtain ⟨r191, v192⟩ := zv192
            exact join63 v192 x1_2
          · skip
            refine pk_bind0 (fun zv195 => ?_)
            obtain ⟨r194, v195⟩ := zv195
            exact join63 v195 x1_2
        · skip
          refine pk_bind0 (fun zv198 => ?_)
          obtain ⟨r197, v198⟩ := zv198
          exact join63 v198 x1_2
      · skip
        refine pk_grd _ (fun _ => ?_)
        refine pk_let (fun v200 ev200 => ?_)
        exact ih2 v200 (x1_2 + 1)
  unfold g_X8_gate
  exact loop2 2000 v 0
