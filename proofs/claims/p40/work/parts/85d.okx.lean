set_option maxHeartbeats 4000000 in
theorem k_X7_isRow (v : Mm) (hI_v : PW rgX v) (a1 : Int32) : ok (g_X7_isRow v a1) (fun z => (0 : Int) ≤ Int32.toInt z ∧ Int32.toInt z ≤ (1 : Int) ∧ ((Int32.toInt z = 0 ∨ (0 ≤ Int32.toInt a1 ∧ Int32.toInt a1 ≤ 7)))) := by
  unfold g_X7_isRow
  refine ok_ite _ (fun c1 => ?_) (fun c1 => ?_)
  · skip
    have ic1 := i_lt c1
    have : (0 : Int32).toInt = 0 := (by decide)
    refine ok_some ?_
    show (0 : Int) ≤ Int32.toInt (0 : Int32) ∧ Int32.toInt (0 : Int32) ≤ (1 : Int) ∧ ((Int32.toInt (0 : Int32) = 0 ∨ (0 ≤ Int32.toInt a1 ∧ Int32.toInt a1 ≤ 7)))
    have : (0 : Int32).toInt = 0 := (by decide)
    omega
  · skip
    have ic1 := i_nlt c1
    have : (0 : Int32).toInt = 0 := (by decide)
    refine ok_ite _ (fun c2 => ?_) (fun c2 => ?_)
    · skip
      have ic2 := i_le c2
      have : (8 : Int32).toInt = 8 := (by decide)
      refine ok_some ?_
      show (0 : Int) ≤ Int32.toInt (0 : Int32) ∧ Int32.toInt (0 : Int32) ≤ (1 : Int) ∧ ((Int32.toInt (0 : Int32) = 0 ∨ (0 ≤ Int32.toInt a1 ∧ Int32.toInt a1 ≤ 7)))
      have : (0 : Int32).toInt = 0 := (by decide)
      omega
    · skip
      have ic2 := i_nle c2
      have : (8 : Int32).toInt = 8 := (by decide)
      refine ok_some ?_
      show (0 : Int) ≤ Int32.toInt (1 : Int32) ∧ Int32.toInt (1 : Int32) ≤ (1 : Int) ∧ ((Int32.toInt (1 : Int32) = 0 ∨ (0 ≤ Int32.toInt a1 ∧ Int32.toInt a1 ≤ 7)))
      have : (1 : Int32).toInt = 1 := (by decide)
      omega
set_option maxHeartbeats 4000000 in
theorem k_X7_found (v : Mm) (hI_v : PW rgX v) (a1 : Int32) : ok (g_X7_found v a1) (fun z => PW rgX z.2) := by
  unfold g_X7_found
  refine ok_let (fun v1 ev1 => ?_)
  have hI_v1 : PW rgX v1 := by rw [ev1]; exact hI_v.up (by have h9 := i_bd a1; exact ⟨h9.1, Int.le_of_lt_add_one h9.2⟩)
  have := i_eq (show v1 0 0 8 = a1 by rw [ev1]; exact up3_s)
  refine ok_some ?_
  show PW rgX v1
  have : (-1000010 : Int32).toInt = -1000010 := (by decide)
  have := i_bd a1
  (first | have := sp_subx (-1000010 : Int32) a1 (by omega) | obtain ⟨k1, hk1⟩ := sp_sub (-1000010 : Int32) a1)
  exact hI_v1
set_option maxHeartbeats 4000000 in
theorem k_X7_unfound (v : Mm) (hI_v : PW rgX v) (a1 : Int32) : ok (g_X7_unfound v a1) (fun z => PW rgX z.2) := by
  unfold g_X7_unfound
  refine ok_let (fun v1 ev1 => ?_)
  have hI_v1 : PW rgX v1 := by rw [ev1]; exact hI_v.up (by have h9 := i_bd (0 : Int32); exact ⟨h9.1, Int.le_of_lt_add_one h9.2⟩)
  have := i_eq (show v1 0 0 8 = 0 by rw [ev1]; exact up3_s)
  have : (0 : Int32).toInt = 0 := (by decide)
  refine ok_some ?_
  show PW rgX v1
  exact hI_v1
set_option maxHeartbeats 4000000 in
theorem k_X7_row (v : Mm) (hI_v : PW rgX v) (a1 : Int32) (a2 : Int32) (a3 : Int32) : ok (g_X7_row v a1 a2 a3) (fun z => PW rgX z.2) := by
  unfold g_X7_row
  refine ok_bind (k_X7_isRow v hI_v a1 ) (fun r2 hr2 => ?_)
  replace hr2 : (0 : Int) ≤ Int32.toInt r2 ∧ Int32.toInt r2 ≤ (1 : Int) ∧ ((Int32.toInt r2 = 0 ∨ (0 ≤ Int32.toInt a1 ∧ Int32.toInt a1 ≤ 7))) := hr2
  obtain ⟨hr2_lo, hr2_hi, hr2_p0⟩ := hr2
  refine ok_ite _ (fun c4 => ?_) (fun c4 => ?_)
  · skip
    have ic4 := i_eq c4
    try clear hr2_p0
    have : (0 : Int32).toInt = 0 := (by decide)
    refine ok_some ?_
    show PW rgX v
    have : (-1000001 : Int32).toInt = -1000001 := (by decide)
    exact hI_v
  · skip
    have ic4 : Int32.toInt r2 = 1 := one_of hr2_lo hr2_hi c4
    try replace hr2_p0 : (0 ≤ Int32.toInt a1 ∧ Int32.toInt a1 ≤ 7) := orr hr2_p0 ic4
    have : (0 : Int32).toInt = 0 := (by decide)
    refine ok_ite _ (fun c5 => ?_) (fun c5 => ?_)
    · skip
      have ic5 := i_lt c5
      have : (0 : Int32).toInt = 0 := (by decide)
      refine ok_some ?_
      show PW rgX v
      have : (-1000001 : Int32).toInt = -1000001 := (by decide)
      exact hI_v
    · skip
      have ic5 := i_nlt c5
      have : (0 : Int32).toInt = 0 := (by decide)
      refine ok_ite _ (fun c6 => ?_) (fun c6 => ?_)
      · skip
        have ic6 := i_lt c6
        have : (2 : Int32).toInt = 2 := (by decide)
        refine ok_some ?_
        show PW rgX v
        have : (-1000001 : Int32).toInt = -1000001 := (by decide)
        exact hI_v
      · skip
        have ic6 := i_nlt c6
        have : (2 : Int32).toInt = 2 := (by decide)
        refine ok_ite _ (fun c7 => ?_) (fun c7 => ?_)
        · skip
          have ic7 := i_le c7
          have : (40 : Int32).toInt = 40 := (by decide)
          refine ok_ite _ (fun c8 => ?_) (fun c8 => ?_)
          · skip
            have ic8 := i_le c8
            have : (0 : Int32).toInt = 0 := (by decide)
            refine ok_grd _ ?_ ?_
            · skip
              exact gr (by omega) (by omega)
            refine ok_bind (k_X5_make v hI_v (Int32.toNatClampNeg a1) a2 a3 (by omega)) (fun v12 hr11 => ?_)
            replace hr11 : PW rgX v12 := hr11
            have hI_v12 := hr11
            clear hr11
            refine ok_kb2 (k_X7_unfound v12 hI_v12 a3 ) (fun r14 v15 hr14 => ?_)
            replace hr14 : PW rgX v15 := hr14
            have hI_v15 := hr14
            clear hr14
            refine ok_some ?_
            show PW rgX v15
            exact hI_v15
          · skip
            have ic8 := i_nle c8
            have : (0 : Int32).toInt = 0 := (by decide)
            refine ok_kb2 (k_X7_found v hI_v 4 ) (fun r17 v18 hr17 => ?_)
            replace hr17 : PW rgX v18 := hr17
            have hI_v18 := hr17
            clear hr17
            refine ok_some ?_
            show PW rgX v18
            exact hI_v18
        · skip
          have ic7 := i_nle c7
          have : (40 : Int32).toInt = 40 := (by decide)
          refine ok_some ?_
          show PW rgX v
          have : (-1000001 : Int32).toInt = -1000001 := (by decide)
          exact hI_v
set_option maxHeartbeats 4000000 in
theorem k_X7_set (v : Mm) (hI_v : PW rgX v) (a1 : Int32) (a2 : Int32) (a3 : Int32) : ok (g_X7_set v a1 a2 a3) (fun z => PW rgX z.2) := by
  unfold g_X7_set
  refine ok_bind (k_X7_isRow v hI_v a1 ) (fun r2 hr2 => ?_)
  replace hr2 : (0 : Int) ≤ Int32.toInt r2 ∧ Int32.toInt r2 ≤ (1 : Int) ∧ ((Int32.toInt r2 = 0 ∨ (0 ≤ Int32.toInt a1 ∧ Int32.toInt a1 ≤ 7))) := hr2
  obtain ⟨hr2_lo, hr2_hi, hr2_p0⟩ := hr2
  refine ok_ite _ (fun c4 => ?_) (fun c4 => ?_)
  · skip
    have ic4 := i_eq c4
    try clear hr2_p0
    have : (0 : Int32).toInt = 0 := (by decide)
    refine ok_some ?_
    show PW rgX v
    have : (-1000001 : Int32).toInt = -1000001 := (by decide)
    exact hI_v
  · skip
    have ic4 : Int32.toInt r2 = 1 := one_of hr2_lo hr2_hi c4
    try replace hr2_p0 : (0 ≤ Int32.toInt a1 ∧ Int32.toInt a1 ≤ 7) := orr hr2_p0 ic4
    have : (0 : Int32).toInt = 0 := (by decide)
    refine ok_grd _ ?_ ?_
    · skip
      exact gr (by omega) (by omega)
    refine ok_bind (k_X5_findingOf v hI_v (Int32.toNatClampNeg a1) a2 1 ) (fun r7 hr7 => ?_)
    replace hr7 : (0 : Int) ≤ Int32.toInt r7 ∧ Int32.toInt r7 ≤ (2 : Int) ∧ (¬ (Int32.toInt r7 = 0) ∨ (0 ≤ Int32.toInt a2 ∧ 0 ≤ Int32.toInt 1 ∧ Int32.toInt a2 + Int32.toInt 1 ≤ 40)) := hr7
    obtain ⟨hr7_lo, hr7_hi, hr7_p0⟩ := hr7
    have : (1 : Int32).toInt = 1 := (by decide)
    refine ok_ite _ (fun c9 => ?_) (fun c9 => ?_)
    · skip
      have ic9 := i_eq c9
      have : (0 : Int32).toInt = 0 := (by decide)
      refine ok_grd _ ?_ ?_
      · skip
        exact gr (by omega) (by omega)
      refine ok_kb2 (k_X5_put v hI_v (Int32.toNatClampNeg a1) a2 a3 (by omega)) (fun r12 v13 hr12 => ?_)
      replace hr12 : PW rgX v13 := hr12
      have hI_v13 := hr12
      clear hr12
      refine ok_kb2 (k_X7_unfound v13 hI_v13 r12 ) (fun r15 v16 hr15 => ?_)
      replace hr15 : PW rgX v16 := hr15
      have hI_v16 := hr15
      clear hr15
      refine ok_some ?_
      show PW rgX v16
      exact hI_v16
    · skip
      have ic9 := i_ne c9
      have : (0 : Int32).toInt = 0 := (by decide)
      refine ok_kb2 (k_X7_found v hI_v r7 ) (fun r18 v19 hr18 => ?_)
      replace hr18 : PW rgX v19 := hr18
      have hI_v19 := hr18
      clear hr18
      refine ok_some ?_
      show PW rgX v19
      exact hI_v19
set_option maxHeartbeats 4000000 in
theorem k_X7_copy (v : Mm) (hI_v : PW rgX v) (a1 : Int32) (a2 : Int32) (a3 : Int32) (a4 : Int32) (a5 : Int32) : ok (g_X7_copy v a1 a2 a3 a4 a5) (fun z => PW rgX z.2) := by
  unfold g_X7_copy
  refine ok_bind (k_X7_isRow v hI_v a1 ) (fun r2 hr2 => ?_)
  replace hr2 : (0 : Int) ≤ Int32.toInt r2 ∧ Int32.toInt r2 ≤ (1 : Int) ∧ ((Int32.toInt r2 = 0 ∨ (0 ≤ Int32.toInt a1 ∧ Int32.toInt a1 ≤ 7))) := hr2
  obtain ⟨hr2_lo, hr2_hi, hr2_p0⟩ := hr2
  refine ok_ite _ (fun c4 => ?_) (fun c4 => ?_)
  · skip
    have ic4 := i_eq c4
    try clear hr2_p0
    have : (0 : Int32).toInt = 0 := (by decide)
    refine ok_some ?_
    show PW rgX v
    have : (-1000001 : Int32).toInt = -1000001 := (by decide)
    exact hI_v
  · skip
    have ic4 : Int32.toInt r2 = 1 := one_of hr2_lo hr2_hi c4
    try replace hr2_p0 : (0 ≤ Int32.toInt a1 ∧ Int32.toInt a1 ≤ 7) := orr hr2_p0 ic4
    have : (0 : Int32).toInt = 0 := (by decide)
    refine ok_bind (k_X7_isRow v hI_v a3 ) (fun r6 hr6 => ?_)
    replace hr6 : (0 : Int) ≤ Int32.toInt r6 ∧ Int32.toInt r6 ≤ (1 : Int) ∧ ((Int32.toInt r6 = 0 ∨ (0 ≤ Int32.toInt a3 ∧ Int32.toInt a3 ≤ 7))) := hr6
    obtain ⟨hr6_lo, hr6_hi, hr6_p0⟩ := hr6
    refine ok_ite _ (fun c8 => ?_) (fun c8 => ?_)
    · skip
      have ic8 := i_eq c8
      try clear hr6_p0
      have : (0 : Int32).toInt = 0 := (by decide)
      refine ok_some ?_
      show PW rgX v
      have : (-1000001 : Int32).toInt = -1000001 := (by decide)
      exact hI_v
    · skip
      have ic8 : Int32.toInt r6 = 1 := one_of hr6_lo hr6_hi c8
      try replace hr6_p0 : (0 ≤ Int32.toInt a3 ∧ Int32.toInt a3 ≤ 7) := orr hr6_p0 ic8
      have : (0 : Int32).toInt = 0 := (by decide)
      refine ok_grd _ ?_ ?_
      · skip
        exact gr (by omega) (by omega)
      refine ok_grd _ ?_ ?_
      · skip
        exact gr (by omega) (by omega)
      refine ok_ite _ (fun c11 => ?_) (fun c11 => ?_)
      · skip
        have ic11 := i_eq c11
        have : (-1 : Int32).toInt = -1 := (by decide)
        refine ok_kb2 (k_X7_found v hI_v 1 ) (fun r13 v14 hr13 => ?_)
        replace hr13 : PW rgX v14 := hr13
        have hI_v14 := hr13
        clear hr13
        refine ok_some ?_
        show PW rgX v14
        exact hI_v14
      · skip
        have ic11 := i_ne c11
        have : (-1 : Int32).toInt = -1 := (by decide)
        refine ok_ite _ (fun c15 => ?_) (fun c15 => ?_)
        · skip
          have ic15 := i_eq c15
          have : (-1 : Int32).toInt = -1 := (by decide)
          refine ok_kb2 (k_X7_found v hI_v 1 ) (fun r17 v18 hr17 => ?_)
          replace hr17 : PW rgX v18 := hr17
          have hI_v18 := hr17
          clear hr17
          refine ok_some ?_
          show PW rgX v18
          exact hI_v18
        · skip
          have ic15 := i_ne c15
          have : (-1 : Int32).toInt = -1 := (by decide)
          refine ok_ite _ (fun c19 => ?_) (fun c19 => ?_)
          · skip
            have ic19 := i_eq c19
            refine ok_bind (k_X5_reaches v hI_v (Int32.toNatClampNeg a1) a2 a5 ) (fun r21 hr21 => ?_)
            replace hr21 : (0 : Int) ≤ Int32.toInt r21 ∧ Int32.toInt r21 ≤ (1 : Int) ∧ (Int32.toInt r21 = 0 ∨ (0 ≤ Int32.toInt a2 ∧ 0 ≤ Int32.toInt a5 ∧ Int32.toInt a2 + Int32.toInt a5 ≤ 40)) := hr21
            obtain ⟨hr21_lo, hr21_hi, hr21_p0⟩ := hr21
            refine ok_ite _ (fun c23 => ?_) (fun c23 => ?_)
            · skip
              have ic23 := i_eq c23
              try clear hr21_p0
              have : (0 : Int32).toInt = 0 := (by decide)
              refine ok_kb2 (k_X7_found v hI_v 2 ) (fun r25 v26 hr25 => ?_)
              replace hr25 : PW rgX v26 := hr25
              have hI_v26 := hr25
              clear hr25
              refine ok_some ?_
              show PW rgX v26
              exact hI_v26
            · skip
              have ic23 : Int32.toInt r21 = 1 := one_of hr21_lo hr21_hi c23
              try replace hr21_p0 : (0 ≤ Int32.toInt a2 ∧ 0 ≤ Int32.toInt a5 ∧ Int32.toInt a2 + Int32.toInt a5 ≤ 40) := orr hr21_p0 ic23
              have : (0 : Int32).toInt = 0 := (by decide)
              refine ok_bind (k_X5_reaches v hI_v (Int32.toNatClampNeg a3) a4 a5 ) (fun r28 hr28 => ?_)
              replace hr28 : (0 : Int) ≤ Int32.toInt r28 ∧ Int32.toInt r28 ≤ (1 : Int) ∧ (Int32.toInt r28 = 0 ∨ (0 ≤ Int32.toInt a4 ∧ 0 ≤ Int32.toInt a5 ∧ Int32.toInt a4 + Int32.toInt a5 ≤ 40)) := hr28
              obtain ⟨hr28_lo, hr28_hi, hr28_p0⟩ := hr28
              refine ok_ite _ (fun c30 => ?_) (fun c30 => ?_)
              · skip
                have ic30 := i_eq c30
                try clear hr28_p0
                have : (0 : Int32).toInt = 0 := (by decide)
                refine ok_kb2 (k_X7_found v hI_v 2 ) (fun r32 v33 hr32 => ?_)
                replace hr32 : PW rgX v33 := hr32
                have hI_v33 := hr32
                clear hr32
                refine ok_some ?_
                show PW rgX v33
                exact hI_v33
              · skip
                have ic30 : Int32.toInt r28 = 1 := one_of hr28_lo hr28_hi c30
                try replace hr28_p0 : (0 ≤ Int32.toInt a4 ∧ 0 ≤ Int32.toInt a5 ∧ Int32.toInt a4 + Int32.toInt a5 ≤ 40) := orr hr28_p0 ic30
                have : (0 : Int32).toInt = 0 := (by decide)
                refine ok_grd _ ?_ ?_
                · skip
                  exact gr3 (by omega) (by omega) (by omega) (by omega) (by omega)
                refine ok_let (fun v35 ev35 => ?_)
                have hI_v35 : PW rgX v35 := by rw [ev35]; exact hI_v.cpy (fun _ _ => rfl)
                refine ok_kb2 (k_X7_unfound v35 hI_v35 a5 ) (fun r37 v38 hr37 => ?_)
                replace hr37 : PW rgX v38 := hr37
                have hI_v38 := hr37
                clear hr37
                refine ok_some ?_
                show PW rgX v38
                exact hI_v38
          · skip
            have ic19 := i_ne c19
            refine ok_kb2 (k_X7_found v hI_v 5 ) (fun r40 v41 hr40 => ?_)
            replace hr40 : PW rgX v41 := hr40
            have hI_v41 := hr40
            clear hr40
            refine ok_some ?_
            show PW rgX v41
            exact hI_v41
set_option maxHeartbeats 4000000 in
theorem k_X7_drop (v : Mm) (hI_v : PW rgX v) (a1 : Int32) : ok (g_X7_drop v a1) (fun z => PW rgX z.2) := by
  unfold g_X7_drop
  refine ok_bind (k_X7_isRow v hI_v a1 ) (fun r2 hr2 => ?_)
  replace hr2 : (0 : Int) ≤ Int32.toInt r2 ∧ Int32.toInt r2 ≤ (1 : Int) ∧ ((Int32.toInt r2 = 0 ∨ (0 ≤ Int32.toInt a1 ∧ Int32.toInt a1 ≤ 7))) := hr2
  obtain ⟨hr2_lo, hr2_hi, hr2_p0⟩ := hr2
  refine ok_ite _ (fun c4 => ?_) (fun c4 => ?_)
  · skip
    have ic4 := i_eq c4
    try clear hr2_p0
    have : (0 : Int32).toInt = 0 := (by decide)
    refine ok_some ?_
    show PW rgX v
    have : (-1000001 : Int32).toInt = -1000001 := (by decide)
    exact hI_v
  · skip
    have ic4 : Int32.toInt r2 = 1 := one_of hr2_lo hr2_hi c4
    try replace hr2_p0 : (0 ≤ Int32.toInt a1 ∧ Int32.toInt a1 ≤ 7) := orr hr2_p0 ic4
    have : (0 : Int32).toInt = 0 := (by decide)
    refine ok_grd _ ?_ ?_
    · skip
      exact gr (by omega) (by omega)
    refine ok_ite _ (fun c6 => ?_) (fun c6 => ?_)
    · skip
      have ic6 := i_eq c6
      have : (-1 : Int32).toInt = -1 := (by decide)
      refine ok_kb2 (k_X7_found v hI_v 1 ) (fun r8 v9 hr8 => ?_)
      replace hr8 : PW rgX v9 := hr8
      have hI_v9 := hr8
      clear hr8
      refine ok_some ?_
      show PW rgX v9
      exact hI_v9
    · skip
      have ic6 := i_ne c6
      have : (-1 : Int32).toInt = -1 := (by decide)
      refine ok_grd _ ?_ ?_
      · skip
        exact gr (by omega) (by omega)
      refine ok_let (fun v11 ev11 => ?_)
      have hI_v11 : PW rgX v11 := by rw [ev11]; exact hI_v.up (by have h9 := i_bd (-1 : Int32); exact ⟨h9.1, Int.le_of_lt_add_one h9.2⟩)
      refine ok_grd _ ?_ ?_
      · skip
        exact gr (by omega) (by omega)
      refine ok_kb2 (k_X7_unfound v11 hI_v11 (v11 2 ((Int32.toNatClampNeg a1)) 2) ) (fun r14 v15 hr14 => ?_)
      replace hr14 : PW rgX v15 := hr14
      have hI_v15 := hr14
      clear hr14
      refine ok_some ?_
      show PW rgX v15
      exact hI_v15
set_option maxHeartbeats 4000000 in
theorem k_X7_feed (v : Mm) (hI_v : PW rgX v) (a1 : Int32) : ok (g_X7_feed v a1) (fun z => PW rgX z.2) := by
  unfold g_X7_feed
  refine ok_ite _ (fun c1 => ?_) (fun c1 => ?_)
  · skip
    have ic1 := i_lt c1
    have : (0 : Int32).toInt = 0 := (by decide)
    refine ok_some ?_
    show PW rgX v
    have : (-1000001 : Int32).toInt = -1000001 := (by decide)
    exact hI_v
  · skip
    have ic1 := i_nlt c1
    have : (0 : Int32).toInt = 0 := (by decide)
    refine ok_ite _ (fun c2 => ?_) (fun c2 => ?_)
    · skip
      have ic2 := i_le c2
      have : (255 : Int32).toInt = 255 := (by decide)
      refine ok_kb2 (k_X6_append v hI_v a1 (by omega)) (fun r4 v5 hr4 => ?_)
      replace hr4 : PW rgX v5 ∧ (0 : Int) ≤ Int32.toInt r4 ∧ Int32.toInt r4 ≤ (1 : Int) := hr4
      obtain ⟨hI_v5, hr4_lo, hr4_hi⟩ := hr4
      refine ok_ite _ (fun c6 => ?_) (fun c6 => ?_)
      · skip
        have ic6 := i_eq c6
        have : (0 : Int32).toInt = 0 := (by decide)
        refine ok_some ?_
        show PW rgX v5
        have : (-1000003 : Int32).toInt = -1000003 := (by decide)
        exact hI_v5
      · skip
        have ic6 : Int32.toInt r4 = 1 := one_of hr4_lo hr4_hi c6
        have : (0 : Int32).toInt = 0 := (by decide)
        refine ok_some ?_
        show PW rgX v5
        have : (0 : Int) ≤ (v5 4 0 2).toInt ∧ (v5 4 0 2).toInt ≤ (100 : Int) := hI_v5 4 0 2
        exact hI_v5
    · skip
      have ic2 := i_nle c2
      have : (255 : Int32).toInt = 255 := (by decide)
      refine ok_some ?_
      show PW rgX v
      have : (-1000001 : Int32).toInt = -1000001 := (by decide)
      exact hI_v
set_option maxHeartbeats 4000000 in
theorem k_X7_gate (v : Mm) (hI_v : PW rgX v)  : ok (g_X7_gate v ) (fun z => PW rgX z.2) := by
  unfold g_X7_gate
  refine ok_kb2 (k_X6_read v hI_v  ) (fun r2 v3 hr2 => ?_)
  replace hr2 : PW rgX v3 ∧ (0 : Int) ≤ Int32.toInt r2 ∧ Int32.toInt r2 ≤ (1 : Int) := hr2
  obtain ⟨hI_v3, hr2_lo, hr2_hi⟩ := hr2
  refine ok_let (fun v4 ev4 => ?_)
  have hI_v4 : PW rgX v4 := by
    rw [ev4]
    refine hI_v3.up ?_
    show (0 : Int) ≤ Int32.toInt (0 : Int32) ∧ Int32.toInt (0 : Int32) ≤ (100 : Int)
    have : (0 : Int32).toInt = 0 := (by decide)
    omega
  have := i_eq (show v4 0 0 7 = v3 0 0 7 by rw [ev4]; exact up3_t (by decide))
  have := i_eq (show v4 4 0 2 = 0 by rw [ev4]; exact up3_s)
  have : (0 : Int32).toInt = 0 := (by decide)
  have := i_eq (show v4 4 0 3 = v3 4 0 3 by rw [ev4]; exact up3_j (by decide))
  have := i_eq (show v4 4 0 4 = v3 4 0 4 by rw [ev4]; exact up3_j (by decide))
  have := i_eq (show v4 6 0 6 = v3 6 0 6 by rw [ev4]; exact up3_t (by decide))
  refine ok_ite _ (fun c5 => ?_) (fun c5 => ?_)
  · skip
    have ic5 := i_eq c5
    have : (0 : Int32).toInt = 0 := (by decide)
    refine ok_let (fun v6 ev6 => ?_)
    have hI_v6 : PW rgX v6 := by rw [ev6]; exact hI_v4.up (by have h9 := i_bd (v4 4 0 3); exact ⟨h9.1, Int.le_of_lt_add_one h9.2⟩)
    have := i_eq (show v6 0 0 7 = (v4 4 0 3) by rw [ev6]; exact up3_s)
    have := i_eq (show v6 4 0 2 = v4 4 0 2 by rw [ev6]; exact up3_t (by decide))
    have := i_eq (show v6 4 0 3 = v4 4 0 3 by rw [ev6]; exact up3_t (by decide))
    have := i_eq (show v6 4 0 4 = v4 4 0 4 by rw [ev6]; exact up3_t (by decide))
    have := i_eq (show v6 6 0 6 = v4 6 0 6 by rw [ev6]; exact up3_t (by decide))
    refine ok_some ?_
    show PW rgX v6
    have : (-1000100 : Int32).toInt = -1000100 := (by decide)
    have := i_bd (v6 4 0 4)
    (first | have := sp_subx (-1000100 : Int32) (v6 4 0 4) (by omega) | obtain ⟨k1, hk1⟩ := sp_sub (-1000100 : Int32) (v6 4 0 4))
    exact hI_v6
  · skip
    have ic5 : Int32.toInt r2 = 1 := one_of hr2_lo hr2_hi c5
    have : (0 : Int32).toInt = 0 := (by decide)
    refine ok_bind (k_X2_become v4 hI_v4 0 1 ) (fun v9 hr8 => ?_)
    replace hr8 : PW rgX v9 := hr8
    have hI_v9 := hr8
    clear hr8
    refine ok_bind (k_X0_forget v9 hI_v9  ) (fun v12 hr11 => ?_)
    replace hr11 : PW rgX v12 := hr11
    have hI_v12 := hr11
    clear hr11
    refine ok_some ?_
    show PW rgX v12
    have : (0 : Int) ≤ (v12 6 0 6).toInt ∧ (v12 6 0 6).toInt ≤ (6 : Int) := hI_v12 6 0 6
    exact hI_v12
set_option maxHeartbeats 4000000 in
theorem k_X7_fault (v : Mm) (hI_v : PW rgX v)  : ok (g_X7_fault v ) (fun z => True) := by
  unfold g_X7_fault
  refine ok_some ?_
  show True
  trivial
set_option maxHeartbeats 4000000 in
theorem k_X7_noGate (v : Mm) (hI_v : PW rgX v)  : ok (g_X7_noGate v ) (fun z => (0 : Int) ≤ Int32.toInt z ∧ Int32.toInt z ≤ (1 : Int)) := by
  unfold g_X7_noGate
  refine ok_ite _ (fun c1 => ?_) (fun c1 => ?_)
  · skip
    have ic1 := i_eq c1
    have : (0 : Int) ≤ (v 6 0 6).toInt ∧ (v 6 0 6).toInt ≤ (6 : Int) := hI_v 6 0 6
    have : (0 : Int32).toInt = 0 := (by decide)
    refine ok_some ?_
    show (0 : Int) ≤ Int32.toInt (1 : Int32) ∧ Int32.toInt (1 : Int32) ≤ (1 : Int)
    have : (1 : Int32).toInt = 1 := (by decide)
    omega
  · skip
    have ic1 := i_ne c1
    have : (0 : Int) ≤ (v 6 0 6).toInt ∧ (v 6 0 6).toInt ≤ (6 : Int) := hI_v 6 0 6
    have : (0 : Int32).toInt = 0 := (by decide)
    refine ok_some ?_
    show (0 : Int) ≤ Int32.toInt (0 : Int32) ∧ Int32.toInt (0 : Int32) ≤ (1 : Int)
    have : (0 : Int32).toInt = 0 := (by decide)
    omega
set_option maxHeartbeats 4000000 in
theorem k_X7_nights (v : Mm) (hI_v : PW rgX v) (a1 : Int32) : ok (g_X7_nights v a1) (fun z => PW rgX z.2) := by
  have loop47 : ∀ (n47 : Nat) (w47 : Mm) (x2_47 : Int32), (PW rgX w47) → ((0 : Int) ≤ Int32.toInt x2_47 ∧ Int32.toInt x2_47 ≤ (24 : Int)) → (Int32.toInt a1 ≤ 24) → (Int32.toInt x2_47 ≤ Int32.toInt a1) → (Int32.toInt (w47 10 0 4) + Int32.toInt a1 - Int32.toInt x2_47 ≤ 999) → (24 - Int32.toInt x2_47 < (n47 : Int)) → ok (g_X7_nights_L47  a1 n47 w47 x2_47) (fun z => PW rgX z.2) := by
    intro n47
    induction n47 with
    | zero =>
      intro w47 x2_47 hI_w47 hv0_47 hv1_47 hv2_47 hv3_47 hm47
      exfalso
      have : (0 : Int) ≤ (w47 10 0 4).toInt ∧ (w47 10 0 4).toInt ≤ (999 : Int) := hI_w47 10 0 4
      omega
    | succ n47 ih47 =>
      intro w47 x2_47 hI_w47 hv0_47 hv1_47 hv2_47 hv3_47 hm47
      show ok (b_X7_nights_L47  (g_X7_nights_L47  a1 n47) a1 w47 x2_47) _
      unfold b_X7_nights_L47
      have : (0 : Int) ≤ (w47 10 0 4).toInt ∧ (w47 10 0 4).toInt ≤ (999 : Int) := hI_w47 10 0 4
      refine ok_ite _ (fun c1 => ?_) (fun c1 => ?_)
      · skip
        have ic1 := i_le c1
        refine ok_bind (k_X2_secretIn w47 hI_w47 0 0 (by have : (0 : Int32).toInt = 0 := (by decide); omega)) (fun r3 hr3 => ?_)
        replace hr3 : (0 : Int) ≤ Int32.toInt r3 ∧ Int32.toInt r3 ≤ (5 : Int) := hr3
        obtain ⟨hr3_lo, hr3_hi⟩ := hr3
        refine ok_some ?_
        show PW rgX w47
        exact hI_w47
      · skip
        have ic1 := i_nle c1
        refine ok_bind (k_X0_keep w47 hI_w47 0 ) (fun v7 hr6 => ?_)
        replace hr6 : PW rgX v7 ∧ (Int32.toInt (v7 10 0 4) = Int32.toInt (w47 10 0 4)) := hr6
        obtain ⟨hI_v7, hr6_p0⟩ := hr6
        have : (0 : Int) ≤ (w47 10 0 4).toInt ∧ (w47 10 0 4).toInt ≤ (999 : Int) := hI_w47 10 0 4
        refine ok_bind (k_X4_goBy v7 hI_v7 0 (by omega)) (fun v10 hr9 => ?_)
        replace hr9 : PW rgX v10 ∧ (Int32.toInt (v10 10 0 4) = Int32.toInt (v7 10 0 4) + 1) := hr9
        obtain ⟨hI_v10, hr9_p0⟩ := hr9
        have : (0 : Int) ≤ (v7 10 0 4).toInt ∧ (v7 10 0 4).toInt ≤ (999 : Int) := hI_v7 10 0 4
        have : (1 : Int32).toInt = 1 := (by decide)
        have := i_bd x2_47
        (first | have := sp_addx x2_47 (1 : Int32) (by omega) | obtain ⟨k1, hk1⟩ := sp_add x2_47 (1 : Int32))
        exact ih47 v10 (x2_47 + 1) hI_v10 (by omega) (by omega) (by omega) (by omega) (by omega)
  unfold g_X7_nights
  refine ok_bind (k_X7_noGate v hI_v  ) (fun r12 hr12 => ?_)
  replace hr12 : (0 : Int) ≤ Int32.toInt r12 ∧ Int32.toInt r12 ≤ (1 : Int) := hr12
  obtain ⟨hr12_lo, hr12_hi⟩ := hr12
  refine ok_ite _ (fun c14 => ?_) (fun c14 => ?_)
  · skip
    have ic14 := i_eq c14
    have : (0 : Int32).toInt = 0 := (by decide)
    refine ok_ite _ (fun c15 => ?_) (fun c15 => ?_)
    · skip
      have ic15 := i_lt c15
      have : (1 : Int32).toInt = 1 := (by decide)
      refine ok_some ?_
      show PW rgX v
      have : (-1000001 : Int32).toInt = -1000001 := (by decide)
      exact hI_v
    · skip
      have ic15 := i_nlt c15
      have : (1 : Int32).toInt = 1 := (by decide)
      refine ok_ite _ (fun c16 => ?_) (fun c16 => ?_)
      · skip
        have ic16 := i_le c16
        have : (24 : Int32).toInt = 24 := (by decide)
        refine ok_ite _ (fun c17 => ?_) (fun c17 => ?_)
        · skip
          have ic17 := i_le c17
          have : (0 : Int) ≤ (v 10 0 4).toInt ∧ (v 10 0 4).toInt ≤ (999 : Int) := hI_v 10 0 4
          have := i_bd (v 10 0 4)
          have := i_bd a1
          (first | have := sp_addx (v 10 0 4) a1 (by omega) | obtain ⟨k2, hk2⟩ := sp_add (v 10 0 4) a1)
          have : (999 : Int32).toInt = 999 := (by decide)
          have : (0 : Int32).toInt = 0 := (by decide)
          exact loop47 2000 v 0 hI_v (by omega) (by omega) (by omega) (by omega) (by omega)
        · skip
          have ic17 := i_nle c17
          have : (0 : Int) ≤ (v 10 0 4).toInt ∧ (v 10 0 4).toInt ≤ (999 : Int) := hI_v 10 0 4
          have := i_bd (v 10 0 4)
          have := i_bd a1
          (first | have := sp_addx (v 10 0 4) a1 (by omega) | obtain ⟨k3, hk3⟩ := sp_add (v 10 0 4) a1)
          have : (999 : Int32).toInt = 999 := (by decide)
          refine ok_some ?_
          show PW rgX v
          have : (-1000003 : Int32).toInt = -1000003 := (by decide)
          exact hI_v
      · skip
        have ic16 := i_nle c16
        have : (24 : Int32).toInt = 24 := (by decide)
        refine ok_some ?_
        show PW rgX v
        have : (-1000001 : Int32).toInt = -1000001 := (by decide)
        exact hI_v
  · skip
    have ic14 : Int32.toInt r12 = 1 := one_of hr12_lo hr12_hi c14
    have : (0 : Int32).toInt = 0 := (by decide)
    refine ok_some ?_
    show PW rgX v
    have : (-1000002 : Int32).toInt = -1000002 := (by decide)
    exact hI_v
set_option maxHeartbeats 4000000 in
theorem k_X7_isWord (v : Mm) (hI_v : PW rgX v) (a1 : Int32) : ok (g_X7_isWord v a1) (fun z => (0 : Int) ≤ Int32.toInt z ∧ Int32.toInt z ≤ (1 : Int) ∧ ((Int32.toInt z = 0 ∨ (0 ≤ Int32.toInt a1 ∧ Int32.toInt a1 ≤ 5)))) := by
  unfold g_X7_isWord
  refine ok_ite _ (fun c1 => ?_) (fun c1 => ?_)
  · skip
    have ic1 := i_lt c1
    have : (0 : Int32).toInt = 0 := (by decide)
    refine ok_some ?_
    show (0 : Int) ≤ Int32.toInt (0 : Int32) ∧ Int32.toInt (0 : Int32) ≤ (1 : Int) ∧ ((Int32.toInt (0 : Int32) = 0 ∨ (0 ≤ Int32.toInt a1 ∧ Int32.toInt a1 ≤ 5)))
    have : (0 : Int32).toInt = 0 := (by decide)
    omega
  · skip
    have ic1 := i_nlt c1
    have : (0 : Int32).toInt = 0 := (by decide)
    refine ok_ite _ (fun c2 => ?_) (fun c2 => ?_)
    · skip
      have ic2 := i_le c2
      have : (0 : Int) ≤ (v 6 0 6).toInt ∧ (v 6 0 6).toInt ≤ (6 : Int) := hI_v 6 0 6
      refine ok_some ?_
      show (0 : Int) ≤ Int32.toInt (0 : Int32) ∧ Int32.toInt (0 : Int32) ≤ (1 : Int) ∧ ((Int32.toInt (0 : Int32) = 0 ∨ (0 ≤ Int32.toInt a1 ∧ Int32.toInt a1 ≤ 5)))
      have : (0 : Int32).toInt = 0 := (by decide)
      omega
    · skip
      have ic2 := i_nle c2
      have : (0 : Int) ≤ (v 6 0 6).toInt ∧ (v 6 0 6).toInt ≤ (6 : Int) := hI_v 6 0 6
      refine ok_some ?_
      show (0 : Int) ≤ Int32.toInt (1 : Int32) ∧ Int32.toInt (1 : Int32) ≤ (1 : Int) ∧ ((Int32.toInt (1 : Int32) = 0 ∨ (0 ≤ Int32.toInt a1 ∧ Int32.toInt a1 ≤ 5)))
      have : (1 : Int32).toInt = 1 := (by decide)
      omega
set_option maxHeartbeats 4000000 in
theorem k_X7_isHour (v : Mm) (hI_v : PW rgX v) (a1 : Int32) : ok (g_X7_isHour v a1) (fun z => (0 : Int) ≤ Int32.toInt z ∧ Int32.toInt z ≤ (1 : Int) ∧ ((Int32.toInt z = 0 ∨ (0 ≤ Int32.toInt a1 ∧ Int32.toInt a1 ≤ 5)))) := by
  unfold g_X7_isHour
  refine ok_ite _ (fun c1 => ?_) (fun c1 => ?_)
  · skip
    have ic1 := i_lt c1
    have : (0 : Int32).toInt = 0 := (by decide)
    refine ok_some ?_
    show (0 : Int) ≤ Int32.toInt (0 : Int32) ∧ Int32.toInt (0 : Int32) ≤ (1 : Int) ∧ ((Int32.toInt (0 : Int32) = 0 ∨ (0 ≤ Int32.toInt a1 ∧ Int32.toInt a1 ≤ 5)))
    have : (0 : Int32).toInt = 0 := (by decide)
    omega
  · skip
    have ic1 := i_nlt c1
    have : (0 : Int32).toInt = 0 := (by decide)
    refine ok_ite _ (fun c2 => ?_) (fun c2 => ?_)
    · skip
      have ic2 := i_le c2
      have : (6 : Int32).toInt = 6 := (by decide)
      refine ok_some ?_
      show (0 : Int) ≤ Int32.toInt (0 : Int32) ∧ Int32.toInt (0 : Int32) ≤ (1 : Int) ∧ ((Int32.toInt (0 : Int32) = 0 ∨ (0 ≤ Int32.toInt a1 ∧ Int32.toInt a1 ≤ 5)))
      have : (0 : Int32).toInt = 0 := (by decide)
      omega
    · skip
      have ic2 := i_nle c2
      have : (6 : Int32).toInt = 6 := (by decide)
      refine ok_some ?_
      show (0 : Int) ≤ Int32.toInt (1 : Int32) ∧ Int32.toInt (1 : Int32) ≤ (1 : Int) ∧ ((Int32.toInt (1 : Int32) = 0 ∨ (0 ≤ Int32.toInt a1 ∧ Int32.toInt a1 ≤ 5)))
      have : (1 : Int32).toInt = 1 := (by decide)
      omega
set_option maxHeartbeats 4000000 in
theorem k_X7_say (v : Mm) (hI_v : PW rgX v) (a1 : Int32) (a2 : Int32) : ok (g_X7_say v a1 a2) (fun z => PW rgX z.2) := by
  unfold g_X7_say
  refine ok_bind (k_X7_isWord v hI_v a1 ) (fun r2 hr2 => ?_)
  replace hr2 : (0 : Int) ≤ Int32.toInt r2 ∧ Int32.toInt r2 ≤ (1 : Int) ∧ ((Int32.toInt r2 = 0 ∨ (0 ≤ Int32.toInt a1 ∧ Int32.toInt a1 ≤ 5))) := hr2
  obtain ⟨hr2_lo, hr2_hi, hr2_p0⟩ := hr2
  refine ok_ite _ (fun c4 => ?_) (fun c4 => ?_)
  · skip
    have ic4 := i_eq c4
    try clear hr2_p0
    have : (0 : Int32).toInt = 0 := (by decide)
    refine ok_some ?_
    show PW rgX v
    have : (-1000001 : Int32).toInt = -1000001 := (by decide)
    exact hI_v
  · skip
    have ic4 : Int32.toInt r2 = 1 := one_of hr2_lo hr2_hi c4
    try replace hr2_p0 : (0 ≤ Int32.toInt a1 ∧ Int32.toInt a1 ≤ 5) := orr hr2_p0 ic4
    have : (0 : Int32).toInt = 0 := (by decide)
    refine ok_bind (k_X7_isHour v hI_v a2 ) (fun r6 hr6 => ?_)
    replace hr6 : (0 : Int) ≤ Int32.toInt r6 ∧ Int32.toInt r6 ≤ (1 : Int) ∧ ((Int32.toInt r6 = 0 ∨ (0 ≤ Int32.toInt a2 ∧ Int32.toInt a2 ≤ 5))) := hr6
    obtain ⟨hr6_lo, hr6_hi, hr6_p0⟩ := hr6
    refine ok_ite _ (fun c8 => ?_) (fun c8 => ?_)
    · skip
      have ic8 := i_eq c8
      try clear hr6_p0
      have : (0 : Int32).toInt = 0 := (by decide)
      refine ok_some ?_
      show PW rgX v
      have : (-1000001 : Int32).toInt = -1000001 := (by decide)
      exact hI_v
    · skip
      have ic8 : Int32.toInt r6 = 1 := one_of hr6_lo hr6_hi c8
      try replace hr6_p0 : (0 ≤ Int32.toInt a2 ∧ Int32.toInt a2 ≤ 5) := orr hr6_p0 ic8
      have : (0 : Int32).toInt = 0 := (by decide)
      refine ok_ite _ (fun c9 => ?_) (fun c9 => ?_)
      · skip
        have ic9 := i_lt c9
        have : (0 : Int) ≤ (v 10 0 7).toInt ∧ (v 10 0 7).toInt ≤ (9 : Int) := hI_v 10 0 7
        have : (9 : Int32).toInt = 9 := (by decide)
        refine ok_bind (k_X2_guardOn v hI_v 0 (v 10 0 4) a2 (by have : (0 : Int) ≤ (v 10 0 4).toInt ∧ (v 10 0 4).toInt ≤ (999 : Int) := hI_v 10 0 4; omega) (by omega)) (fun r11 hr11 => ?_)
        replace hr11 : (0 : Int) ≤ Int32.toInt r11 ∧ Int32.toInt r11 ≤ (3 : Int) := hr11
        obtain ⟨hr11_lo, hr11_hi⟩ := hr11
        refine ok_bind (k_X2_catches v hI_v 0 a1 a2 0 (by omega) (by omega) (by have : (0 : Int32).toInt = 0 := (by decide); omega)) (fun r14 hr14 => ?_)
        replace hr14 : (0 : Int) ≤ Int32.toInt r14 ∧ Int32.toInt r14 ≤ (1 : Int) := hr14
        obtain ⟨hr14_lo, hr14_hi⟩ := hr14
        refine ok_bind (k_X0_keep v hI_v 0 ) (fun v18 hr17 => ?_)
        replace hr17 : PW rgX v18 ∧ (Int32.toInt (v18 10 0 4) = Int32.toInt (v 10 0 4)) := hr17
        obtain ⟨hI_v18, hr17_p0⟩ := hr17
        have : (0 : Int) ≤ (v 10 0 4).toInt ∧ (v 10 0 4).toInt ≤ (999 : Int) := hI_v 10 0 4
        refine ok_bind (k_X2_isThere v18 hI_v18 0 r11 ) (fun r20 hr20 => ?_)
        replace hr20 : (0 : Int) ≤ Int32.toInt r20 ∧ Int32.toInt r20 ≤ (1 : Int) := hr20
        obtain ⟨hr20_lo, hr20_hi⟩ := hr20
        refine ok_ite _ (fun c22 => ?_) (fun c22 => ?_)
        · skip
          have ic22 := i_eq c22
          have : (0 : Int32).toInt = 0 := (by decide)
          refine ok_bind (k_X4_addTry v18 hI_v18 0 a1 (-1000000) r14 (by omega)) (fun v25 hr24 => ?_)
          replace hr24 : PW rgX v25 := hr24
          have hI_v25 := hr24
          clear hr24
          refine ok_bind (k_X7_bit v25 hI_v25 r14 ) (fun r27 hr27 => ?_)
          replace hr27 : (0 : Int) ≤ Int32.toInt r27 ∧ Int32.toInt r27 ≤ (1 : Int) := hr27
          obtain ⟨hr27_lo, hr27_hi⟩ := hr27
          refine ok_some ?_
          show PW rgX v25
          exact hI_v25
        · skip
          have ic22 : Int32.toInt r20 = 1 := one_of hr20_lo hr20_hi c22
          have : (0 : Int32).toInt = 0 := (by decide)
          refine ok_bind (k_X4_addTry v18 hI_v18 0 a1 r11 r14 (by omega)) (fun v31 hr30 => ?_)
          replace hr30 : PW rgX v31 := hr30
          have hI_v31 := hr30
          clear hr30
          refine ok_bind (k_X7_bit v31 hI_v31 r14 ) (fun r33 hr33 => ?_)
          replace hr33 : (0 : Int) ≤ Int32.toInt r33 ∧ Int32.toInt r33 ≤ (1 : Int) := hr33
          obtain ⟨hr33_lo, hr33_hi⟩ := hr33
          refine ok_some ?_
          show PW rgX v31
          exact hI_v31
      · skip
        have ic9 := i_nlt c9
        have : (0 : Int) ≤ (v 10 0 7).toInt ∧ (v 10 0 7).toInt ≤ (9 : Int) := hI_v 10 0 7
        have : (9 : Int32).toInt = 9 := (by decide)
        refine ok_some ?_
        show PW rgX v
        have : (-1000003 : Int32).toInt = -1000003 := (by decide)
        exact hI_v
set_option maxHeartbeats 4000000 in
theorem k_X7_start (v : Mm) (hI_v : PW rgX v) (a1 : Int32) : ok (g_X7_start v a1) (fun z => PW rgX z.2) := by
  unfold g_X7_start
  refine ok_bind (k_X7_noGate v hI_v  ) (fun r2 hr2 => ?_)
  replace hr2 : (0 : Int) ≤ Int32.toInt r2 ∧ Int32.toInt r2 ≤ (1 : Int) := hr2
  obtain ⟨hr2_lo, hr2_hi⟩ := hr2
  refine ok_ite _ (fun c4 => ?_) (fun c4 => ?_)
  · skip
    have ic4 := i_eq c4
    have : (0 : Int32).toInt = 0 := (by decide)
    refine ok_ite _ (fun c5 => ?_) (fun c5 => ?_)
    · skip
      have ic5 := i_lt c5
      have : (0 : Int32).toInt = 0 := (by decide)
      refine ok_some ?_
      show PW rgX v
      have : (-1000001 : Int32).toInt = -1000001 := (by decide)
      exact hI_v
    · skip
      have ic5 := i_nlt c5
      have : (0 : Int32).toInt = 0 := (by decide)
      refine ok_ite _ (fun c6 => ?_) (fun c6 => ?_)
      · skip
        have ic6 := i_le c6
        have : (9 : Int32).toInt = 9 := (by decide)
        refine ok_bind (k_X0_keep v hI_v 0 ) (fun v9 hr8 => ?_)
        replace hr8 : PW rgX v9 ∧ (Int32.toInt (v9 10 0 4) = Int32.toInt (v 10 0 4)) := hr8
        obtain ⟨hI_v9, hr8_p0⟩ := hr8
        have : (0 : Int) ≤ (v 10 0 4).toInt ∧ (v 10 0 4).toInt ≤ (999 : Int) := hI_v 10 0 4
        refine ok_let (fun v10 ev10 => ?_)
        have hI_v10 : PW rgX v10 := by
          rw [ev10]
          refine hI_v9.up ?_
          show (0 : Int) ≤ Int32.toInt a1 ∧ Int32.toInt a1 ≤ (9 : Int)
          omega
        have := i_eq (show v10 10 0 5 = a1 by rw [ev10]; exact up3_s)
        refine ok_some ?_
        show PW rgX v10
        have : (0 : Int) ≤ (v 10 0 5).toInt ∧ (v 10 0 5).toInt ≤ (9 : Int) := hI_v 10 0 5
        exact hI_v10
      · skip
        have ic6 := i_nle c6
        have : (9 : Int32).toInt = 9 := (by decide)
        refine ok_some ?_
        show PW rgX v
        have : (-1000001 : Int32).toInt = -1000001 := (by decide)
        exact hI_v
  · skip
    have ic4 : Int32.toInt r2 = 1 := one_of hr2_lo hr2_hi c4
    have : (0 : Int32).toInt = 0 := (by decide)
    refine ok_some ?_
    show PW rgX v
    have : (-1000002 : Int32).toInt = -1000002 := (by decide)
    exact hI_v
set_option maxHeartbeats 4000000 in
theorem k_X7_isGuard (v : Mm) (hI_v : PW rgX v) (a1 : Int32) : ok (g_X7_isGuard v a1) (fun z => (0 : Int) ≤ Int32.toInt z ∧ Int32.toInt z ≤ (1 : Int) ∧ ((Int32.toInt z = 0 ∨ (0 ≤ Int32.toInt a1 ∧ Int32.toInt a1 ≤ 3)))) := by
  unfold g_X7_isGuard
  refine ok_ite _ (fun c1 => ?_) (fun c1 => ?_)
  · skip
    have ic1 := i_lt c1
    have : (0 : Int32).toInt = 0 := (by decide)
    refine ok_some ?_
    show (0 : Int) ≤ Int32.toInt (0 : Int32) ∧ Int32.toInt (0 : Int32) ≤ (1 : Int) ∧ ((Int32.toInt (0 : Int32) = 0 ∨ (0 ≤ Int32.toInt a1 ∧ Int32.toInt a1 ≤ 3)))
    have : (0 : Int32).toInt = 0 := (by decide)
    omega
  · skip
    have ic1 := i_nlt c1
    have : (0 : Int32).toInt = 0 := (by decide)
    refine ok_ite _ (fun c2 => ?_) (fun c2 => ?_)
    · skip
      have ic2 := i_le c2
      have : (0 : Int) ≤ (v 6 0 7).toInt ∧ (v 6 0 7).toInt ≤ (4 : Int) := hI_v 6 0 7
      refine ok_some ?_
      show (0 : Int) ≤ Int32.toInt (0 : Int32) ∧ Int32.toInt (0 : Int32) ≤ (1 : Int) ∧ ((Int32.toInt (0 : Int32) = 0 ∨ (0 ≤ Int32.toInt a1 ∧ Int32.toInt a1 ≤ 3)))
      have : (0 : Int32).toInt = 0 := (by decide)
      omega
    · skip
      have ic2 := i_nle c2
      have : (0 : Int) ≤ (v 6 0 7).toInt ∧ (v 6 0 7).toInt ≤ (4 : Int) := hI_v 6 0 7
      refine ok_some ?_
      show (0 : Int) ≤ Int32.toInt (1 : Int32) ∧ Int32.toInt (1 : Int32) ≤ (1 : Int) ∧ ((Int32.toInt (1 : Int32) = 0 ∨ (0 ≤ Int32.toInt a1 ∧ Int32.toInt a1 ≤ 3)))
      have : (1 : Int32).toInt = 1 := (by decide)
      omega
set_option maxHeartbeats 4000000 in
theorem k_X7_dismiss (v : Mm) (hI_v : PW rgX v) (a1 : Int32) (a2 : Int32) : ok (g_X7_dismiss v a1 a2) (fun z => PW rgX z.2) := by
  unfold g_X7_dismiss
  refine ok_bind (k_X7_isGuard v hI_v a1 ) (fun r2 hr2 => ?_)
  replace hr2 : (0 : Int) ≤ Int32.toInt r2 ∧ Int32.toInt r2 ≤ (1 : Int) ∧ ((Int32.toInt r2 = 0 ∨ (0 ≤ Int32.toInt a1 ∧ Int32.toInt a1 ≤ 3))) := hr2
  obtain ⟨hr2_lo, hr2_hi, hr2_p0⟩ := hr2
  refine ok_ite _ (fun c4 => ?_) (fun c4 => ?_)
  · skip
    have ic4 := i_eq c4
    try clear hr2_p0
    have : (0 : Int32).toInt = 0 := (by decide)
    refine ok_some ?_
    show PW rgX v
    have : (-1000001 : Int32).toInt = -1000001 := (by decide)
    exact hI_v
  · skip
    have ic4 : Int32.toInt r2 = 1 := one_of hr2_lo hr2_hi c4
    try replace hr2_p0 : (0 ≤ Int32.toInt a1 ∧ Int32.toInt a1 ≤ 3) := orr hr2_p0 ic4
    have : (0 : Int32).toInt = 0 := (by decide)
    refine ok_ite _ (fun c5 => ?_) (fun c5 => ?_)
    · skip
      have ic5 := i_lt c5
      have : (0 : Int32).toInt = 0 := (by decide)
      refine ok_some ?_
      show PW rgX v
      have : (-1000001 : Int32).toInt = -1000001 := (by decide)
      exact hI_v
    · skip
      have ic5 := i_nlt c5
      have : (0 : Int32).toInt = 0 := (by decide)
      refine ok_ite _ (fun c6 => ?_) (fun c6 => ?_)
      · skip
        have ic6 := i_le c6
        have : (1 : Int32).toInt = 1 := (by decide)
        refine ok_bind (k_X2_isThere v hI_v 0 a1 ) (fun r8 hr8 => ?_)
        replace hr8 : (0 : Int) ≤ Int32.toInt r8 ∧ Int32.toInt r8 ≤ (1 : Int) := hr8
        obtain ⟨hr8_lo, hr8_hi⟩ := hr8
        refine ok_bind (k_X7_bit v hI_v r8 ) (fun r11 hr11 => ?_)
        replace hr11 : (0 : Int) ≤ Int32.toInt r11 ∧ Int32.toInt r11 ≤ (1 : Int) := hr11
        obtain ⟨hr11_lo, hr11_hi⟩ := hr11
        refine ok_ite _ (fun c13 => ?_) (fun c13 => ?_)
        · skip
          have ic13 := i_eq c13
          refine ok_some ?_
          show PW rgX v
          have : (-1000002 : Int32).toInt = -1000002 := (by decide)
          exact hI_v
        · skip
          have ic13 := i_ne c13
          refine ok_bind (k_X0_keep v hI_v 0 ) (fun v16 hr15 => ?_)
          replace hr15 : PW rgX v16 ∧ (Int32.toInt (v16 10 0 4) = Int32.toInt (v 10 0 4)) := hr15
          obtain ⟨hI_v16, hr15_p0⟩ := hr15
          have : (0 : Int) ≤ (v 10 0 4).toInt ∧ (v 10 0 4).toInt ≤ (999 : Int) := hI_v 10 0 4
          refine ok_let (fun v17 ev17 => ?_)
          have hI_v17 : PW rgX v17 := by
            rw [ev17]
            refine hI_v16.up ?_
            show (0 : Int) ≤ Int32.toInt ((v16 10 0 6) ^^^ ((1 : Int32) <<< (a1 &&& 31))) ∧ Int32.toInt ((v16 10 0 6) ^^^ ((1 : Int32) <<< (a1 &&& 31))) ≤ (15 : Int)
            have : (0 : Int) ≤ (v16 10 0 6).toInt ∧ (v16 10 0 6).toInt ≤ (15 : Int) := hI_v16 10 0 6
            have : (1 : Int32).toInt = 1 := (by decide)
            (try have := sp_shl4 (b := a1) (by omega) (by omega))
            (try have := sp_shl5 (b := a1) (by omega) (by omega))
            (try have := sp_shl7 (b := a1) (by omega) (by omega))
            (try have := sp_shl (a := (1 : Int32)) (b := a1) (by omega) (by omega) (by omega) (by omega))
            (try have := sp_xor64 (a := (v16 10 0 6)) (b := ((1 : Int32) <<< (a1 &&& 31))) (by omega) (by omega) (by omega) (by omega))
            (try have := sp_xor16 (a := (v16 10 0 6)) (b := ((1 : Int32) <<< (a1 &&& 31))) (by omega) (by omega) (by omega) (by omega))
            omega
          have := i_eq (show v17 10 0 6 = ((v16 10 0 6) ^^^ ((1 : Int32) <<< (a1 &&& 31))) by rw [ev17]; exact up3_s)
          have : (0 : Int) ≤ (v16 10 0 6).toInt ∧ (v16 10 0 6).toInt ≤ (15 : Int) := hI_v16 10 0 6
          have : (1 : Int32).toInt = 1 := (by decide)
          (try have := sp_shl4 (b := a1) (by omega) (by omega))
          (try have := sp_shl5 (b := a1) (by omega) (by omega))
          (try have := sp_shl7 (b := a1) (by omega) (by omega))
          (try have := sp_shl (a := (1 : Int32)) (b := a1) (by omega) (by omega) (by omega) (by omega))
          (try have := sp_xor64 (a := (v16 10 0 6)) (b := ((1 : Int32) <<< (a1 &&& 31))) (by omega) (by omega) (by omega) (by omega))
          (try have := sp_xor16 (a := (v16 10 0 6)) (b := ((1 : Int32) <<< (a1 &&& 31))) (by omega) (by omega) (by omega) (by omega))
          refine ok_some ?_
          show PW rgX v17
          have : (0 : Int) ≤ (v17 10 0 6).toInt ∧ (v17 10 0 6).toInt ≤ (15 : Int) := hI_v17 10 0 6
          exact hI_v17
      · skip
        have ic6 := i_nle c6
        have : (1 : Int32).toInt = 1 := (by decide)
        refine ok_some ?_
        show PW rgX v
        have : (-1000001 : Int32).toInt = -1000001 := (by decide)
        exact hI_v
set_option maxHeartbeats 4000000 in
theorem k_X7_undo (v : Mm) (hI_v : PW rgX v)  : ok (g_X7_undo v ) (fun z => PW rgX z.2) := by
  unfold g_X7_undo
  refine ok_kb2 (k_X0_takeBack v hI_v 0 ) (fun r2 v3 hr2 => ?_)
  replace hr2 : PW rgX v3 ∧ (0 : Int) ≤ Int32.toInt r2 ∧ Int32.toInt r2 ≤ (1 : Int) := hr2
  obtain ⟨hI_v3, hr2_lo, hr2_hi⟩ := hr2
  refine ok_ite _ (fun c4 => ?_) (fun c4 => ?_)
  · skip
    have ic4 := i_eq c4
    have : (0 : Int32).toInt = 0 := (by decide)
    refine ok_some ?_
    show PW rgX v3
    have : (-1000002 : Int32).toInt = -1000002 := (by decide)
    exact hI_v3
  · skip
    have ic4 : Int32.toInt r2 = 1 := one_of hr2_lo hr2_hi c4
    have : (0 : Int32).toInt = 0 := (by decide)
    refine ok_some ?_
    show PW rgX v3
    have : (0 : Int) ≤ (v3 15 0 2).toInt ∧ (v3 15 0 2).toInt ≤ (24 : Int) := hI_v3 15 0 2
    exact hI_v3
set_option maxHeartbeats 4000000 in
theorem k_X7_letter (v : Mm) (hI_v : PW rgX v) (a1 : Int32) (a2 : Int32) : ok (g_X7_letter v a1 a2) (fun z => True) := by
  unfold g_X7_letter
  refine ok_bind (k_X7_isWord v hI_v a1 ) (fun r2 hr2 => ?_)
  replace hr2 : (0 : Int) ≤ Int32.toInt r2 ∧ Int32.toInt r2 ≤ (1 : Int) ∧ ((Int32.toInt r2 = 0 ∨ (0 ≤ Int32.toInt a1 ∧ Int32.toInt a1 ≤ 5))) := hr2
  obtain ⟨hr2_lo, hr2_hi, hr2_p0⟩ := hr2
  refine ok_ite _ (fun c4 => ?_) (fun c4 => ?_)
  · skip
    have ic4 := i_eq c4
    try clear hr2_p0
    have : (0 : Int32).toInt = 0 := (by decide)
    refine ok_some ?_
    show True
    have : (-1000001 : Int32).toInt = -1000001 := (by decide)
    trivial
  · skip
    have ic4 : Int32.toInt r2 = 1 := one_of hr2_lo hr2_hi c4
    try replace hr2_p0 : (0 ≤ Int32.toInt a1 ∧ Int32.toInt a1 ≤ 5) := orr hr2_p0 ic4
    have : (0 : Int32).toInt = 0 := (by decide)
    refine ok_ite _ (fun c5 => ?_) (fun c5 => ?_)
    · skip
      have ic5 := i_lt c5
      have : (0 : Int32).toInt = 0 := (by decide)
      refine ok_some ?_
      show True
      have : (-1000001 : Int32).toInt = -1000001 := (by decide)
      trivial
    · skip
      have ic5 := i_nlt c5
      have : (0 : Int32).toInt = 0 := (by decide)
      refine ok_ite _ (fun c6 => ?_) (fun c6 => ?_)
      · skip
        have ic6 := i_lt c6
        have : (3 : Int32).toInt = 3 := (by decide)
        refine ok_grd _ ?_ ?_
        · skip
          have : (3 : Int32).toInt = 3 := (by decide)
          (first | have := sp_mulcx a1 (3 : Int32) 3 (by decide) (by omega) | obtain ⟨k1, hk1⟩ := sp_mulc a1 (3 : Int32) 3 (by decide))
          have := i_bd a2
          (first | have := sp_addx (a1 * 3) a2 (by omega) | obtain ⟨k2, hk2⟩ := sp_add (a1 * 3) a2)
          exact gr (by omega) (by omega)
        refine ok_some ?_
        show True
        trivial
      · skip
        have ic6 := i_nlt c6
        have : (3 : Int32).toInt = 3 := (by decide)
        refine ok_some ?_
        show True
        have : (-1000001 : Int32).toInt = -1000001 := (by decide)
        trivial
set_option maxHeartbeats 4000000 in
theorem k_X7_like (v : Mm) (hI_v : PW rgX v) (a1 : Int32) (a2 : Int32) (a3 : Int32) : ok (g_X7_like v a1 a2 a3) (fun z => True) := by
  unfold g_X7_like
  refine ok_bind (k_X7_isWord v hI_v a1 ) (fun r2 hr2 => ?_)
  replace hr2 : (0 : Int) ≤ Int32.toInt r2 ∧ Int32.toInt r2 ≤ (1 : Int) ∧ ((Int32.toInt r2 = 0 ∨ (0 ≤ Int32.toInt a1 ∧ Int32.toInt a1 ≤ 5))) := hr2
  obtain ⟨hr2_lo, hr2_hi, hr2_p0⟩ := hr2
  refine ok_ite _ (fun c4 => ?_) (fun c4 => ?_)
  · skip
    have ic4 := i_eq c4
    try clear hr2_p0
    have : (0 : Int32).toInt = 0 := (by decide)
    refine ok_some ?_
    show True
    have : (-1000001 : Int32).toInt = -1000001 := (by decide)
    trivial
  · skip
    have ic4 : Int32.toInt r2 = 1 := one_of hr2_lo hr2_hi c4
    try replace hr2_p0 : (0 ≤ Int32.toInt a1 ∧ Int32.toInt a1 ≤ 5) := orr hr2_p0 ic4
    have : (0 : Int32).toInt = 0 := (by decide)
    refine ok_bind (k_X7_isWord v hI_v a2 ) (fun r6 hr6 => ?_)
    replace hr6 : (0 : Int) ≤ Int32.toInt r6 ∧ Int32.toInt r6 ≤ (1 : Int) ∧ ((Int32.toInt r6 = 0 ∨ (0 ≤ Int32.toInt a2 ∧ Int32.toInt a2 ≤ 5))) := hr6
    obtain ⟨hr6_lo, hr6_hi, hr6_p0⟩ := hr6
    refine ok_ite _ (fun c8 => ?_) (fun c8 => ?_)
    · skip
      have ic8 := i_eq c8
      try clear hr6_p0
      have : (0 : Int32).toInt = 0 := (by decide)
      refine ok_some ?_
      show True
      have : (-1000001 : Int32).toInt = -1000001 := (by decide)
      trivial
    · skip
      have ic8 : Int32.toInt r6 = 1 := one_of hr6_lo hr6_hi c8
      try replace hr6_p0 : (0 ≤ Int32.toInt a2 ∧ Int32.toInt a2 ≤ 5) := orr hr6_p0 ic8
      have : (0 : Int32).toInt = 0 := (by decide)
      refine ok_ite _ (fun c9 => ?_) (fun c9 => ?_)
      · skip
        have ic9 := i_lt c9
        have : (0 : Int32).toInt = 0 := (by decide)
        refine ok_some ?_
        show True
        have : (-1000001 : Int32).toInt = -1000001 := (by decide)
        trivial
      · skip
        have ic9 := i_nlt c9
        have : (0 : Int32).toInt = 0 := (by decide)
        refine ok_ite _ (fun c10 => ?_) (fun c10 => ?_)
        · skip
          have ic10 := i_le c10
          have : (1 : Int32).toInt = 1 := (by decide)
          refine ok_ite _ (fun c11 => ?_) (fun c11 => ?_)
          · skip
            have ic11 := i_eq c11
            have : (0 : Int32).toInt = 0 := (by decide)
            refine ok_bind (k_X2_distance v hI_v 0 a1 a2 (by omega) (by omega)) (fun r13 hr13 => ?_)
            replace hr13 : (0 : Int) ≤ Int32.toInt r13 ∧ Int32.toInt r13 ≤ (3 : Int) := hr13
            obtain ⟨hr13_lo, hr13_hi⟩ := hr13
            refine ok_some ?_
            show True
            trivial
          · skip
            have ic11 := i_ne c11
            have : (0 : Int32).toInt = 0 := (by decide)
            refine ok_bind (k_X2_lips v hI_v 0 a1 a2 (by omega) (by omega)) (fun r16 hr16 => ?_)
            replace hr16 : (0 : Int) ≤ Int32.toInt r16 ∧ Int32.toInt r16 ≤ (3 : Int) := hr16
            obtain ⟨hr16_lo, hr16_hi⟩ := hr16
            refine ok_some ?_
            show True
            trivial
        · skip
          have ic10 := i_nle c10
          have : (1 : Int32).toInt = 1 := (by decide)
          refine ok_some ?_
          show True
          have : (-1000001 : Int32).toInt = -1000001 := (by decide)
          trivial
set_option maxHeartbeats 4000000 in
theorem k_X7_guard (v : Mm) (hI_v : PW rgX v) (a1 : Int32) (a2 : Int32) : ok (g_X7_guard v a1 a2) (fun z => True) := by
  unfold g_X7_guard
  refine ok_bind (k_X7_isGuard v hI_v a1 ) (fun r2 hr2 => ?_)
  replace hr2 : (0 : Int) ≤ Int32.toInt r2 ∧ Int32.toInt r2 ≤ (1 : Int) ∧ ((Int32.toInt r2 = 0 ∨ (0 ≤ Int32.toInt a1 ∧ Int32.toInt a1 ≤ 3))) := hr2
  obtain ⟨hr2_lo, hr2_hi, hr2_p0⟩ := hr2
  refine ok_ite _ (fun c4 => ?_) (fun c4 => ?_)
  · skip
    have ic4 := i_eq c4
    try clear hr2_p0
    have : (0 : Int32).toInt = 0 := (by decide)
    refine ok_some ?_
    show True
    have : (-1000001 : Int32).toInt = -1000001 := (by decide)
    trivial
  · skip
    have ic4 : Int32.toInt r2 = 1 := one_of hr2_lo hr2_hi c4
    try replace hr2_p0 : (0 ≤ Int32.toInt a1 ∧ Int32.toInt a1 ≤ 3) := orr hr2_p0 ic4
    have : (0 : Int32).toInt = 0 := (by decide)
    refine ok_ite _ (fun c5 => ?_) (fun c5 => ?_)
    · skip
      have ic5 := i_eq c5
      have : (0 : Int32).toInt = 0 := (by decide)
      refine ok_grd _ ?_ ?_
      · skip
        exact gr (by omega) (by omega)
      refine ok_some ?_
      show True
      trivial
    · skip
      have ic5 := i_ne c5
      have : (0 : Int32).toInt = 0 := (by decide)
      refine ok_ite _ (fun c7 => ?_) (fun c7 => ?_)
      · skip
        have ic7 := i_eq c7
        have : (1 : Int32).toInt = 1 := (by decide)
        refine ok_grd _ ?_ ?_
        · skip
          exact gr (by omega) (by omega)
        refine ok_some ?_
        show True
        trivial
      · skip
        have ic7 := i_ne c7
        have : (1 : Int32).toInt = 1 := (by decide)
        refine ok_ite _ (fun c9 => ?_) (fun c9 => ?_)
        · skip
          have ic9 := i_eq c9
          have : (2 : Int32).toInt = 2 := (by decide)
          refine ok_bind (k_X2_isThere v hI_v 0 a1 ) (fun r11 hr11 => ?_)
          replace hr11 : (0 : Int) ≤ Int32.toInt r11 ∧ Int32.toInt r11 ≤ (1 : Int) := hr11
          obtain ⟨hr11_lo, hr11_hi⟩ := hr11
          refine ok_bind (k_X7_bit v hI_v r11 ) (fun r14 hr14 => ?_)
          replace hr14 : (0 : Int) ≤ Int32.toInt r14 ∧ Int32.toInt r14 ≤ (1 : Int) := hr14
          obtain ⟨hr14_lo, hr14_hi⟩ := hr14
          refine ok_some ?_
          show True
          trivial
        · skip
          have ic9 := i_ne c9
          have : (2 : Int32).toInt = 2 := (by decide)
          refine ok_ite _ (fun c16 => ?_) (fun c16 => ?_)
          · skip
            have ic16 := i_eq c16
            have : (3 : Int32).toInt = 3 := (by decide)
            refine ok_bind (k_X2_hoursOf v hI_v 0 a1 ) (fun r18 hr18 => ?_)
            replace hr18 : (0 : Int) ≤ Int32.toInt r18 ∧ Int32.toInt r18 ≤ (63 : Int) := hr18
            obtain ⟨hr18_lo, hr18_hi⟩ := hr18
            refine ok_some ?_
            show True
            trivial
          · skip
            have ic16 := i_ne c16
            have : (3 : Int32).toInt = 3 := (by decide)
            refine ok_some ?_
            show True
            have : (-1000001 : Int32).toInt = -1000001 := (by decide)
            trivial
set_option maxHeartbeats 4000000 in
theorem k_X7_tried (v : Mm) (hI_v : PW rgX v) (a1 : Int32) (a2 : Int32) : ok (g_X7_tried v a1 a2) (fun z => True) := by
  unfold g_X7_tried
  refine ok_ite _ (fun c1 => ?_) (fun c1 => ?_)
  · skip
    have ic1 := i_lt c1
    have : (0 : Int32).toInt = 0 := (by decide)
    refine ok_some ?_
    show True
    have : (-1000001 : Int32).toInt = -1000001 := (by decide)
    trivial
  · skip
    have ic1 := i_nlt c1
    have : (0 : Int32).toInt = 0 := (by decide)
    refine ok_ite _ (fun c2 => ?_) (fun c2 => ?_)
    · skip
      have ic2 := i_lt c2
      have : (0 : Int) ≤ (v 10 0 7).toInt ∧ (v 10 0 7).toInt ≤ (9 : Int) := hI_v 10 0 7
      refine ok_ite _ (fun c3 => ?_) (fun c3 => ?_)
      · skip
        have ic3 := i_eq c3
        have : (0 : Int32).toInt = 0 := (by decide)
        refine ok_grd _ ?_ ?_
        · skip
          exact gr (by omega) (by omega)
        refine ok_some ?_
        show True
        have : (0 : Int) ≤ (v 12 0 (Int32.toNatClampNeg a1)).toInt ∧ (v 12 0 (Int32.toNatClampNeg a1)).toInt ≤ (5 : Int) := hI_v 12 0 (Int32.toNatClampNeg a1)
        trivial
      · skip
        have ic3 := i_ne c3
        have : (0 : Int32).toInt = 0 := (by decide)
        refine ok_ite _ (fun c5 => ?_) (fun c5 => ?_)
        · skip
          have ic5 := i_eq c5
          have : (1 : Int32).toInt = 1 := (by decide)
          refine ok_grd _ ?_ ?_
          · skip
            exact gr (by omega) (by omega)
          refine ok_some ?_
          show True
          trivial
        · skip
          have ic5 := i_ne c5
          have : (1 : Int32).toInt = 1 := (by decide)
          refine ok_ite _ (fun c7 => ?_) (fun c7 => ?_)
          · skip
            have ic7 := i_eq c7
            have : (2 : Int32).toInt = 2 := (by decide)
            refine ok_grd _ ?_ ?_
            · skip
              exact gr (by omega) (by omega)
            refine ok_some ?_
            show True
            trivial
          · skip
            have ic7 := i_ne c7
            have : (2 : Int32).toInt = 2 := (by decide)
            refine ok_some ?_
            show True
            have : (-1000001 : Int32).toInt = -1000001 := (by decide)
            trivial
    · skip
      have ic2 := i_nlt c2
      have : (0 : Int) ≤ (v 10 0 7).toInt ∧ (v 10 0 7).toInt ≤ (9 : Int) := hI_v 10 0 7
      refine ok_some ?_
      show True
      have : (-1000001 : Int32).toInt = -1000001 := (by decide)
      trivial
set_option maxHeartbeats 4000000 in
theorem k_X7_isAhead (v : Mm) (hI_v : PW rgX v) (a1 : Int32) : ok (g_X7_isAhead v a1) (fun z => (0 : Int) ≤ Int32.toInt z ∧ Int32.toInt z ≤ (1 : Int) ∧ ((Int32.toInt z = 0 ∨ (0 ≤ Int32.toInt a1 ∧ Int32.toInt a1 ≤ 60)))) := by
  unfold g_X7_isAhead
  refine ok_ite _ (fun c1 => ?_) (fun c1 => ?_)
  · skip
    have ic1 := i_lt c1
    have : (0 : Int32).toInt = 0 := (by decide)
    refine ok_some ?_
    show (0 : Int) ≤ Int32.toInt (0 : Int32) ∧ Int32.toInt (0 : Int32) ≤ (1 : Int) ∧ ((Int32.toInt (0 : Int32) = 0 ∨ (0 ≤ Int32.toInt a1 ∧ Int32.toInt a1 ≤ 60)))
    have : (0 : Int32).toInt = 0 := (by decide)
    omega
  · skip
    have ic1 := i_nlt c1
    have : (0 : Int32).toInt = 0 := (by decide)
    refine ok_ite _ (fun c2 => ?_) (fun c2 => ?_)
    · skip
      have ic2 := i_lt c2
      have : (60 : Int32).toInt = 60 := (by decide)
      refine ok_some ?_
      show (0 : Int) ≤ Int32.toInt (0 : Int32) ∧ Int32.toInt (0 : Int32) ≤ (1 : Int) ∧ ((Int32.toInt (0 : Int32) = 0 ∨ (0 ≤ Int32.toInt a1 ∧ Int32.toInt a1 ≤ 60)))
      have : (0 : Int32).toInt = 0 := (by decide)
      omega
    · skip
      have ic2 := i_nlt c2
      have : (60 : Int32).toInt = 60 := (by decide)
      refine ok_some ?_
      show (0 : Int) ≤ Int32.toInt (1 : Int32) ∧ Int32.toInt (1 : Int32) ≤ (1 : Int) ∧ ((Int32.toInt (1 : Int32) = 0 ∨ (0 ≤ Int32.toInt a1 ∧ Int32.toInt a1 ≤ 60)))
      have : (1 : Int32).toInt = 1 := (by decide)
      omega
set_option maxHeartbeats 4000000 in
theorem k_X7_secret (v : Mm) (hI_v : PW rgX v) (a1 : Int32) : ok (g_X7_secret v a1) (fun z => True) := by
  unfold g_X7_secret
  refine ok_bind (k_X7_noGate v hI_v  ) (fun r2 hr2 => ?_)
  replace hr2 : (0 : Int) ≤ Int32.toInt r2 ∧ Int32.toInt r2 ≤ (1 : Int) := hr2
  obtain ⟨hr2_lo, hr2_hi⟩ := hr2
  refine ok_ite _ (fun c4 => ?_) (fun c4 => ?_)
  · skip
    have ic4 := i_eq c4
    have : (0 : Int32).toInt = 0 := (by decide)
    refine ok_bind (k_X7_isAhead v hI_v a1 ) (fun r6 hr6 => ?_)
    replace hr6 : (0 : Int) ≤ Int32.toInt r6 ∧ Int32.toInt r6 ≤ (1 : Int) ∧ ((Int32.toInt r6 = 0 ∨ (0 ≤ Int32.toInt a1 ∧ Int32.toInt a1 ≤ 60))) := hr6
    obtain ⟨hr6_lo, hr6_hi, hr6_p0⟩ := hr6
    refine ok_ite _ (fun c8 => ?_) (fun c8 => ?_)
    · skip
      have ic8 := i_eq c8
      try clear hr6_p0
      have : (0 : Int32).toInt = 0 := (by decide)
      refine ok_some ?_
      show True
      have : (-1000001 : Int32).toInt = -1000001 := (by decide)
      trivial
    · skip
      have ic8 : Int32.toInt r6 = 1 := one_of hr6_lo hr6_hi c8
      try replace hr6_p0 : (0 ≤ Int32.toInt a1 ∧ Int32.toInt a1 ≤ 60) := orr hr6_p0 ic8
      have : (0 : Int32).toInt = 0 := (by decide)
      refine ok_bind (k_X2_secretIn v hI_v 0 a1 (by omega)) (fun r10 hr10 => ?_)
      replace hr10 : (0 : Int) ≤ Int32.toInt r10 ∧ Int32.toInt r10 ≤ (5 : Int) := hr10
      obtain ⟨hr10_lo, hr10_hi⟩ := hr10
      refine ok_some ?_
      show True
      trivial
  · skip
    have ic4 : Int32.toInt r2 = 1 := one_of hr2_lo hr2_hi c4
    have : (0 : Int32).toInt = 0 := (by decide)
    refine ok_some ?_
    show True
    have : (-1000002 : Int32).toInt = -1000002 := (by decide)
    trivial
set_option maxHeartbeats 4000000 in
theorem k_X7_taken (v : Mm) (hI_v : PW rgX v) (a1 : Int32) (a2 : Int32) (a3 : Int32) : ok (g_X7_taken v a1 a2 a3) (fun z => True) := by
  unfold g_X7_taken
  refine ok_bind (k_X7_isWord v hI_v a1 ) (fun r2 hr2 => ?_)
  replace hr2 : (0 : Int) ≤ Int32.toInt r2 ∧ Int32.toInt r2 ≤ (1 : Int) ∧ ((Int32.toInt r2 = 0 ∨ (0 ≤ Int32.toInt a1 ∧ Int32.toInt a1 ≤ 5))) := hr2
  obtain ⟨hr2_lo, hr2_hi, hr2_p0⟩ := hr2
  refine ok_ite _ (fun c4 => ?_) (fun c4 => ?_)
  · skip
    have ic4 := i_eq c4
    try clear hr2_p0
    have : (0 : Int32).toInt = 0 := (by decide)
    refine ok_some ?_
    show True
    have : (-1000001 : Int32).toInt = -1000001 := (by decide)
    trivial
  · skip
    have ic4 : Int32.toInt r2 = 1 := one_of hr2_lo hr2_hi c4
    try replace hr2_p0 : (0 ≤ Int32.toInt a1 ∧ Int32.toInt a1 ≤ 5) := orr hr2_p0 ic4
    have : (0 : Int32).toInt = 0 := (by decide)
    refine ok_bind (k_X7_isHour v hI_v a2 ) (fun r6 hr6 => ?_)
    replace hr6 : (0 : Int) ≤ Int32.toInt r6 ∧ Int32.toInt r6 ≤ (1 : Int) ∧ ((Int32.toInt r6 = 0 ∨ (0 ≤ Int32.toInt a2 ∧ Int32.toInt a2 ≤ 5))) := hr6
    obtain ⟨hr6_lo, hr6_hi, hr6_p0⟩ := hr6
    refine ok_ite _ (fun c8 => ?_) (fun c8 => ?_)
    · skip
      have ic8 := i_eq c8
      try clear hr6_p0
      have : (0 : Int32).toInt = 0 := (by decide)
      refine ok_some ?_
      show True
      have : (-1000001 : Int32).toInt = -1000001 := (by decide)
      trivial
    · skip
      have ic8 : Int32.toInt r6 = 1 := one_of hr6_lo hr6_hi c8
      try replace hr6_p0 : (0 ≤ Int32.toInt a2 ∧ Int32.toInt a2 ≤ 5) := orr hr6_p0 ic8
      have : (0 : Int32).toInt = 0 := (by decide)
      refine ok_bind (k_X7_isAhead v hI_v a3 ) (fun r10 hr10 => ?_)
      replace hr10 : (0 : Int) ≤ Int32.toInt r10 ∧ Int32.toInt r10 ≤ (1 : Int) ∧ ((Int32.toInt r10 = 0 ∨ (0 ≤ Int32.toInt a3 ∧ Int32.toInt a3 ≤ 60))) := hr10
      obtain ⟨hr10_lo, hr10_hi, hr10_p0⟩ := hr10
      refine ok_ite _ (fun c12 => ?_) (fun c12 => ?_)
      · skip
        have ic12 := i_eq c12
        try clear hr10_p0
        have : (0 : Int32).toInt = 0 := (by decide)
        refine ok_some ?_
        show True
        have : (-1000001 : Int32).toInt = -1000001 := (by decide)
        trivial
      · skip
        have ic12 : Int32.toInt r10 = 1 := one_of hr10_lo hr10_hi c12
        try replace hr10_p0 : (0 ≤ Int32.toInt a3 ∧ Int32.toInt a3 ≤ 60) := orr hr10_p0 ic12
        have : (0 : Int32).toInt = 0 := (by decide)
        refine ok_bind (k_X2_catches v hI_v 0 a1 a2 a3 (by omega) (by omega) (by omega)) (fun r14 hr14 => ?_)
        replace hr14 : (0 : Int) ≤ Int32.toInt r14 ∧ Int32.toInt r14 ≤ (1 : Int) := hr14
        obtain ⟨hr14_lo, hr14_hi⟩ := hr14
        refine ok_bind (k_X7_bit v hI_v r14 ) (fun r17 hr17 => ?_)
        replace hr17 : (0 : Int) ≤ Int32.toInt r17 ∧ Int32.toInt r17 ≤ (1 : Int) := hr17
        obtain ⟨hr17_lo, hr17_hi⟩ := hr17
        refine ok_some ?_
        show True
        trivial
set_option maxHeartbeats 4000000 in
theorem k_X7_safe (v : Mm) (hI_v : PW rgX v) (a1 : Int32) (a2 : Int32) : ok (g_X7_safe v a1 a2) (fun z => True) := by
  unfold g_X7_safe
  refine ok_bind (k_X7_noGate v hI_v  ) (fun r2 hr2 => ?_)
  replace hr2 : (0 : Int) ≤ Int32.toInt r2 ∧ Int32.toInt r2 ≤ (1 : Int) := hr2
  obtain ⟨hr2_lo, hr2_hi⟩ := hr2
  refine ok_ite _ (fun c4 => ?_) (fun c4 => ?_)
  · skip
    have ic4 := i_eq c4
    have : (0 : Int32).toInt = 0 := (by decide)
    refine ok_bind (k_X7_isHour v hI_v a1 ) (fun r6 hr6 => ?_)
    replace hr6 : (0 : Int) ≤ Int32.toInt r6 ∧ Int32.toInt r6 ≤ (1 : Int) ∧ ((Int32.toInt r6 = 0 ∨ (0 ≤ Int32.toInt a1 ∧ Int32.toInt a1 ≤ 5))) := hr6
    obtain ⟨hr6_lo, hr6_hi, hr6_p0⟩ := hr6
    refine ok_ite _ (fun c8 => ?_) (fun c8 => ?_)
    · skip
      have ic8 := i_eq c8
      try clear hr6_p0
      have : (0 : Int32).toInt = 0 := (by decide)
      refine ok_some ?_
      show True
      have : (-1000001 : Int32).toInt = -1000001 := (by decide)
      trivial
    · skip
      have ic8 : Int32.toInt r6 = 1 := one_of hr6_lo hr6_hi c8
      try replace hr6_p0 : (0 ≤ Int32.toInt a1 ∧ Int32.toInt a1 ≤ 5) := orr hr6_p0 ic8
      have : (0 : Int32).toInt = 0 := (by decide)
      refine ok_bind (k_X7_isAhead v hI_v a2 ) (fun r10 hr10 => ?_)
      replace hr10 : (0 : Int) ≤ Int32.toInt r10 ∧ Int32.toInt r10 ≤ (1 : Int) ∧ ((Int32.toInt r10 = 0 ∨ (0 ≤ Int32.toInt a2 ∧ Int32.toInt a2 ≤ 60))) := hr10
      obtain ⟨hr10_lo, hr10_hi, hr10_p0⟩ := hr10
      refine ok_ite _ (fun c12 => ?_) (fun c12 => ?_)
      · skip
        have ic12 := i_eq c12
        try clear hr10_p0
        have : (0 : Int32).toInt = 0 := (by decide)
        refine ok_some ?_
        show True
        have : (-1000001 : Int32).toInt = -1000001 := (by decide)
        trivial
      · skip
        have ic12 : Int32.toInt r10 = 1 := one_of hr10_lo hr10_hi c12
        try replace hr10_p0 : (0 ≤ Int32.toInt a2 ∧ Int32.toInt a2 ≤ 60) := orr hr10_p0 ic12
        have : (0 : Int32).toInt = 0 := (by decide)
        refine ok_bind (k_X2_wordsIn v hI_v 0 a1 a2 (by omega) (by omega)) (fun r14 hr14 => ?_)
        replace hr14 : (0 : Int) ≤ Int32.toInt r14 ∧ Int32.toInt r14 ≤ (63 : Int) := hr14
        obtain ⟨hr14_lo, hr14_hi⟩ := hr14
        refine ok_some ?_
        show True
        trivial
  · skip
    have ic4 : Int32.toInt r2 = 1 := one_of hr2_lo hr2_hi c4
    have : (0 : Int32).toInt = 0 := (by decide)
    refine ok_some ?_
    show True
    have : (-1000002 : Int32).toInt = -1000002 := (by decide)
    trivial
set_option maxHeartbeats 4000000 in
theorem k_X7_areWords (v : Mm) (hI_v : PW rgX v) (a1 : Int32) : ok (g_X7_areWords v a1) (fun z => (0 : Int) ≤ Int32.toInt z ∧ Int32.toInt z ≤ (1 : Int) ∧ ((Int32.toInt z = 0 ∨ (0 ≤ Int32.toInt a1 ∧ Int32.toInt a1 ≤ 63)))) := by
  unfold g_X7_areWords
  refine ok_ite _ (fun c1 => ?_) (fun c1 => ?_)
  · skip
    have ic1 := i_lt c1
    have : (0 : Int32).toInt = 0 := (by decide)
    refine ok_some ?_
    show (0 : Int) ≤ Int32.toInt (0 : Int32) ∧ Int32.toInt (0 : Int32) ≤ (1 : Int) ∧ ((Int32.toInt (0 : Int32) = 0 ∨ (0 ≤ Int32.toInt a1 ∧ Int32.toInt a1 ≤ 63)))
    have : (0 : Int32).toInt = 0 := (by decide)
    omega
  · skip
    have ic1 := i_nlt c1
    have : (0 : Int32).toInt = 0 := (by decide)
    refine ok_ite _ (fun c2 => ?_) (fun c2 => ?_)
    · skip
      have ic2 := i_le c2
      have : (1 : Int32).toInt = 1 := (by decide)
      have : (0 : Int) ≤ (v 6 0 6).toInt ∧ (v 6 0 6).toInt ≤ (6 : Int) := hI_v 6 0 6
      (try have := sp_shl4 (b := (v 6 0 6)) (by omega) (by omega))
      (try have := sp_shl5 (b := (v 6 0 6)) (by omega) (by omega))
      (try have := sp_shl7 (b := (v 6 0 6)) (by omega) (by omega))
      (try have := sp_shl (a := (1 : Int32)) (b := (v 6 0 6)) (by omega) (by omega) (by omega) (by omega))
      refine ok_some ?_
      show (0 : Int) ≤ Int32.toInt (0 : Int32) ∧ Int32.toInt (0 : Int32) ≤ (1 : Int) ∧ ((Int32.toInt (0 : Int32) = 0 ∨ (0 ≤ Int32.toInt a1 ∧ Int32.toInt a1 ≤ 63)))
      have : (0 : Int32).toInt = 0 := (by decide)
      omega
    · skip
      have ic2 := i_nle c2
      have : (1 : Int32).toInt = 1 := (by decide)
      have : (0 : Int) ≤ (v 6 0 6).toInt ∧ (v 6 0 6).toInt ≤ (6 : Int) := hI_v 6 0 6
      (try have := sp_shl4 (b := (v 6 0 6)) (by omega) (by omega))
      (try have := sp_shl5 (b := (v 6 0 6)) (by omega) (by omega))
      (try have := sp_shl7 (b := (v 6 0 6)) (by omega) (by omega))
      (try have := sp_shl (a := (1 : Int32)) (b := (v 6 0 6)) (by omega) (by omega) (by omega) (by omega))
      refine ok_some ?_
      show (0 : Int) ≤ Int32.toInt (1 : Int32) ∧ Int32.toInt (1 : Int32) ≤ (1 : Int) ∧ ((Int32.toInt (1 : Int32) = 0 ∨ (0 ≤ Int32.toInt a1 ∧ Int32.toInt a1 ≤ 63)))
      have : (1 : Int32).toInt = 1 := (by decide)
      omega
set_option maxHeartbeats 4000000 in
theorem k_X7_open (v : Mm) (hI_v : PW rgX v) (a1 : Int32) (a2 : Int32) : ok (g_X7_open v a1 a2) (fun z => True) := by
  unfold g_X7_open
  refine ok_bind (k_X7_noGate v hI_v  ) (fun r2 hr2 => ?_)
  replace hr2 : (0 : Int) ≤ Int32.toInt r2 ∧ Int32.toInt r2 ≤ (1 : Int) := hr2
  obtain ⟨hr2_lo, hr2_hi⟩ := hr2
  refine ok_ite _ (fun c4 => ?_) (fun c4 => ?_)
  · skip
    have ic4 := i_eq c4
    have : (0 : Int32).toInt = 0 := (by decide)
    refine ok_bind (k_X7_areWords v hI_v a1 ) (fun r6 hr6 => ?_)
    replace hr6 : (0 : Int) ≤ Int32.toInt r6 ∧ Int32.toInt r6 ≤ (1 : Int) ∧ ((Int32.toInt r6 = 0 ∨ (0 ≤ Int32.toInt a1 ∧ Int32.toInt a1 ≤ 63))) := hr6
    obtain ⟨hr6_lo, hr6_hi, hr6_p0⟩ := hr6
    refine ok_ite _ (fun c8 => ?_) (fun c8 => ?_)
    · skip
      have ic8 := i_eq c8
      try clear hr6_p0
      have : (0 : Int32).toInt = 0 := (by decide)
      refine ok_some ?_
      show True
      have : (-1000001 : Int32).toInt = -1000001 := (by decide)
      trivial
    · skip
      have ic8 : Int32.toInt r6 = 1 := one_of hr6_lo hr6_hi c8
      try replace hr6_p0 : (0 ≤ Int32.toInt a1 ∧ Int32.toInt a1 ≤ 63) := orr hr6_p0 ic8
      have : (0 : Int32).toInt = 0 := (by decide)
      refine ok_bind (k_X7_isAhead v hI_v a2 ) (fun r10 hr10 => ?_)
      replace hr10 : (0 : Int) ≤ Int32.toInt r10 ∧ Int32.toInt r10 ≤ (1 : Int) ∧ ((Int32.toInt r10 = 0 ∨ (0 ≤ Int32.toInt a2 ∧ Int32.toInt a2 ≤ 60))) := hr10
      obtain ⟨hr10_lo, hr10_hi, hr10_p0⟩ := hr10
      refine ok_ite _ (fun c12 => ?_) (fun c12 => ?_)
      · skip
        have ic12 := i_eq c12
        try clear hr10_p0
        have : (0 : Int32).toInt = 0 := (by decide)
        refine ok_some ?_
        show True
        have : (-1000001 : Int32).toInt = -1000001 := (by decide)
        trivial
      · skip
        have ic12 : Int32.toInt r10 = 1 := one_of hr10_lo hr10_hi c12
        try replace hr10_p0 : (0 ≤ Int32.toInt a2 ∧ Int32.toInt a2 ≤ 60) := orr hr10_p0 ic12
        have : (0 : Int32).toInt = 0 := (by decide)
        refine ok_bind (k_X2_hoursOpen v hI_v 0 a1 a2 (by omega)) (fun r14 hr14 => ?_)
        clear hr14
        refine ok_some ?_
        show True
        trivial
  · skip
    have ic4 : Int32.toInt r2 = 1 := one_of hr2_lo hr2_hi c4
    have : (0 : Int32).toInt = 0 := (by decide)
    refine ok_some ?_
    show True
    have : (-1000002 : Int32).toInt = -1000002 := (by decide)
    trivial
set_option maxHeartbeats 4000000 in
theorem k_X7_next (v : Mm) (hI_v : PW rgX v) (a1 : Int32) : ok (g_X7_next v a1) (fun z => True) := by
  unfold g_X7_next
  refine ok_bind (k_X7_isWord v hI_v a1 ) (fun r2 hr2 => ?_)
  replace hr2 : (0 : Int) ≤ Int32.toInt r2 ∧ Int32.toInt r2 ≤ (1 : Int) ∧ ((Int32.toInt r2 = 0 ∨ (0 ≤ Int32.toInt a1 ∧ Int32.toInt a1 ≤ 5))) := hr2
  obtain ⟨hr2_lo, hr2_hi, hr2_p0⟩ := hr2
  refine ok_ite _ (fun c4 => ?_) (fun c4 => ?_)
  · skip
    have ic4 := i_eq c4
    try clear hr2_p0
    have : (0 : Int32).toInt = 0 := (by decide)
    refine ok_some ?_
    show True
    have : (-1000001 : Int32).toInt = -1000001 := (by decide)
    trivial
  · skip
    have ic4 : Int32.toInt r2 = 1 := one_of hr2_lo hr2_hi c4
    try replace hr2_p0 : (0 ≤ Int32.toInt a1 ∧ Int32.toInt a1 ≤ 5) := orr hr2_p0 ic4
    have : (0 : Int32).toInt = 0 := (by decide)
    refine ok_bind (k_X2_nightsUntil v hI_v 0 a1 ) (fun r6 hr6 => ?_)
    clear hr6
    refine ok_some ?_
    show True
    trivial
set_option maxHeartbeats 4000000 in
theorem k_X7_agree (v : Mm) (hI_v : PW rgX v)  : ok (g_X7_agree v ) (fun z => True) := by
  unfold g_X7_agree
  refine ok_bind (k_X7_noGate v hI_v  ) (fun r2 hr2 => ?_)
  replace hr2 : (0 : Int) ≤ Int32.toInt r2 ∧ Int32.toInt r2 ≤ (1 : Int) := hr2
  obtain ⟨hr2_lo, hr2_hi⟩ := hr2
  refine ok_ite _ (fun c4 => ?_) (fun c4 => ?_)
  · skip
    have ic4 := i_eq c4
    have : (0 : Int32).toInt = 0 := (by decide)
    refine ok_bind (k_X3_agreeing v hI_v 0 ) (fun r6 hr6 => ?_)
    replace hr6 : (0 : Int) ≤ Int32.toInt r6 ∧ Int32.toInt r6 ≤ (63 : Int) := hr6
    obtain ⟨hr6_lo, hr6_hi⟩ := hr6
    refine ok_some ?_
    show True
    trivial
  · skip
    have ic4 : Int32.toInt r2 = 1 := one_of hr2_lo hr2_hi c4
    have : (0 : Int32).toInt = 0 := (by decide)
    refine ok_some ?_
    show True
    have : (-1000002 : Int32).toInt = -1000002 := (by decide)
    trivial
set_option maxHeartbeats 4000000 in
theorem k_X7_man (v : Mm) (hI_v : PW rgX v) (a1 : Int32) : ok (g_X7_man v a1) (fun z => True) := by
  unfold g_X7_man
  refine ok_bind (k_X7_noGate v hI_v  ) (fun r2 hr2 => ?_)
  replace hr2 : (0 : Int) ≤ Int32.toInt r2 ∧ Int32.toInt r2 ≤ (1 : Int) := hr2
  obtain ⟨hr2_lo, hr2_hi⟩ := hr2
  refine ok_ite _ (fun c4 => ?_) (fun c4 => ?_)
  · skip
    have ic4 := i_eq c4
    have : (0 : Int32).toInt = 0 := (by decide)
    refine ok_ite _ (fun c5 => ?_) (fun c5 => ?_)
    · skip
      have ic5 := i_lt c5
      have : (0 : Int32).toInt = 0 := (by decide)
      refine ok_some ?_
      show True
      have : (-1000001 : Int32).toInt = -1000001 := (by decide)
      trivial
    · skip
      have ic5 := i_nlt c5
      have : (0 : Int32).toInt = 0 := (by decide)
      refine ok_ite _ (fun c6 => ?_) (fun c6 => ?_)
      · skip
        have ic6 := i_le c6
        have : (2 : Int32).toInt = 2 := (by decide)
        refine ok_bind (k_X3_agreeing v hI_v 0 ) (fun r8 hr8 => ?_)
        replace hr8 : (0 : Int) ≤ Int32.toInt r8 ∧ Int32.toInt r8 ≤ (63 : Int) := hr8
        obtain ⟨hr8_lo, hr8_hi⟩ := hr8
        refine ok_bind (k_X3_bestTry v hI_v 0 r8 ) (fun r11 hr11 => ?_)
        replace hr11 : (0 : Int) ≤ Int32.toInt r11 ∧ Int32.toInt r11 ≤ (35 : Int) := hr11
        obtain ⟨hr11_lo, hr11_hi⟩ := hr11
        refine ok_ite _ (fun c13 => ?_) (fun c13 => ?_)
        · skip
          have ic13 := i_eq c13
          have : (2 : Int32).toInt = 2 := (by decide)
          refine ok_bind (k_X3_leftAtWorst v hI_v 0 r11 r8 (by omega)) (fun r15 hr15 => ?_)
          clear hr15
          refine ok_some ?_
          show True
          trivial
        · skip
          have ic13 := i_ne c13
          have : (2 : Int32).toInt = 2 := (by decide)
          refine ok_ite _ (fun c17 => ?_) (fun c17 => ?_)
          · skip
            have ic17 := i_eq c17
            have : (0 : Int32).toInt = 0 := (by decide)
            refine ok_some ?_
            show True
            have : (6 : Int32).toInt = 6 := (by decide)
            (try have : (r11 / 6).toInt = r11.toInt / 6 := (sp_div (a := r11) (b := (6 : Int32)) (by omega) (by omega)).trans (by rw [show (6 : Int32).toInt = 6 by decide]))
            trivial
          · skip
            have ic17 := i_ne c17
            have : (0 : Int32).toInt = 0 := (by decide)
            refine ok_some ?_
            show True
            have : (6 : Int32).toInt = 6 := (by decide)
            (try have := sp_rem (a := r11) (b := (6 : Int32)) (by omega) (by omega))
            trivial
      · skip
        have ic6 := i_nle c6
        have : (2 : Int32).toInt = 2 := (by decide)
        refine ok_some ?_
        show True
        have : (-1000001 : Int32).toInt = -1000001 := (by decide)
        trivial
  · skip
    have ic4 : Int32.toInt r2 = 1 := one_of hr2_lo hr2_hi c4
    have : (0 : Int32).toInt = 0 := (by decide)
    refine ok_some ?_
    show True
    have : (-1000002 : Int32).toInt = -1000002 := (by decide)
    trivial
set_option maxHeartbeats 4000000 in
theorem k_X7_fewest (v : Mm) (hI_v : PW rgX v)  : ok (g_X7_fewest v ) (fun z => PW rgX z.2) := by
  unfold g_X7_fewest
  refine ok_bind (k_X7_noGate v hI_v  ) (fun r2 hr2 => ?_)
  replace hr2 : (0 : Int) ≤ Int32.toInt r2 ∧ Int32.toInt r2 ≤ (1 : Int) := hr2
  obtain ⟨hr2_lo, hr2_hi⟩ := hr2
  refine ok_ite _ (fun c4 => ?_) (fun c4 => ?_)
  · skip
    have ic4 := i_eq c4
    have : (0 : Int32).toInt = 0 := (by decide)
    refine ok_bind (k_X3_agreeing v hI_v 0 ) (fun r6 hr6 => ?_)
    replace hr6 : (0 : Int) ≤ Int32.toInt r6 ∧ Int32.toInt r6 ≤ (63 : Int) := hr6
    obtain ⟨hr6_lo, hr6_hi⟩ := hr6
    refine ok_kb2 (k_X3_fewestMen v hI_v 0 r6 (by omega)) (fun r9 v10 hr9 => ?_)
    replace hr9 : PW rgX v10 := hr9
    have hI_v10 := hr9
    clear hr9
    refine ok_some ?_
    show PW rgX v10
    exact hI_v10
  · skip
    have ic4 : Int32.toInt r2 = 1 := one_of hr2_lo hr2_hi c4
    have : (0 : Int32).toInt = 0 := (by decide)
    refine ok_some ?_
    show PW rgX v
    have : (-1000002 : Int32).toInt = -1000002 := (by decide)
    exact hI_v
set_option maxHeartbeats 4000000 in
theorem k_X7_hourOfLast (v : Mm) (hI_v : PW rgX v) (i1 : Nat) (a2 : Int32) (a3 : Int32) (hx0 : 0 ≤ Int32.toInt a2) (hx1 : Int32.toInt a2 + Int32.toInt a3 ≤ 40) (hx2 : Int32.toInt a3 ≤ 6) : ok (g_X7_hourOfLast v i1 a2 a3) (fun z => True) := by
  have loop6 : ∀ (n6 : Nat) (x4_6 : Int32) (x5_6 : Int32), ((-1 : Int) ≤ Int32.toInt x4_6 ∧ Int32.toInt x4_6 ≤ (5 : Int)) → ((0 : Int) ≤ Int32.toInt x5_6 ∧ Int32.toInt x5_6 ≤ (6 : Int)) → (6 - Int32.toInt x5_6 < (n6 : Int)) → ok (g_X7_hourOfLast_L6  v i1 a2 a3 n6 x4_6 x5_6) (fun z => True) := by
    intro n6
    induction n6 with
    | zero =>
      intro x4_6 x5_6 hv0_6 hv1_6 hm6
      exfalso
      omega
    | succ n6 ih6 =>
      intro x4_6 x5_6 hv0_6 hv1_6 hm6
      show ok (b_X7_hourOfLast_L6  (g_X7_hourOfLast_L6  v i1 a2 a3 n6) v i1 a2 a3 x4_6 x5_6) _
      unfold b_X7_hourOfLast_L6
      refine ok_ite _ (fun c1 => ?_) (fun c1 => ?_)
      · skip
        have ic1 := i_le c1
        refine ok_some ?_
        show True
        trivial
      · skip
        have ic1 := i_nle c1
        refine ok_grd _ ?_ ?_
        · skip
          have := i_bd a2
          have := i_bd x5_6
          (first | have := sp_addx a2 x5_6 (by omega) | obtain ⟨k1, hk1⟩ := sp_add a2 x5_6)
          exact gr (by omega) (by omega)
        refine ok_let (fun x3 ex3 => ?_)
        have := i_eq ex3
        refine ok_bind (k_X7_isWord v hI_v x3 ) (fun r5 hr5 => ?_)
        replace hr5 : (0 : Int) ≤ Int32.toInt r5 ∧ Int32.toInt r5 ≤ (1 : Int) ∧ ((Int32.toInt r5 = 0 ∨ (0 ≤ Int32.toInt x3 ∧ Int32.toInt x3 ≤ 5))) := hr5
        obtain ⟨hr5_lo, hr5_hi, hr5_p0⟩ := hr5
        refine ok_ite _ (fun c7 => ?_) (fun c7 => ?_)
        · skip
          have ic7 := i_eq c7
          try clear hr5_p0
          have : (0 : Int32).toInt = 0 := (by decide)
          refine ok_some ?_
          show True
          have : (-1000000 : Int32).toInt = -1000000 := (by decide)
          trivial
        · skip
          have ic7 : Int32.toInt r5 = 1 := one_of hr5_lo hr5_hi c7
          try replace hr5_p0 : (0 ≤ Int32.toInt x3 ∧ Int32.toInt x3 ≤ 5) := orr hr5_p0 ic7
          have : (0 : Int32).toInt = 0 := (by decide)
          refine ok_bind (k_X2_hourIn v hI_v 0 x3 (x4_6 + 1) (by omega) (by have : (1 : Int32).toInt = 1 := (by decide); have := i_bd x4_6; (first | have := sp_addx x4_6 (1 : Int32) (by omega) | obtain ⟨k2, hk2⟩ := sp_add x4_6 (1 : Int32)); omega)) (fun r10 hr10 => ?_)
          replace hr10 : ((Int32.toInt r10 = -1000000 ∨ (0 ≤ Int32.toInt r10 ∧ Int32.toInt r10 ≤ 5))) := hr10
          have hr10_p0 := hr10
          clear hr10
          have : (1 : Int32).toInt = 1 := (by decide)
          have := i_bd x4_6
          (first | have := sp_addx x4_6 (1 : Int32) (by omega) | obtain ⟨k3, hk3⟩ := sp_add x4_6 (1 : Int32))
          refine ok_ite _ (fun c12 => ?_) (fun c12 => ?_)
          · skip
            have ic12 := i_eq c12
            have : (-1000000 : Int32).toInt = -1000000 := (by decide)
            refine ok_some ?_
            show True
            have : (-1000000 : Int32).toInt = -1000000 := (by decide)
            trivial
          · skip
            have ic12 := i_ne c12
            have : (-1000000 : Int32).toInt = -1000000 := (by decide)
            have : (1 : Int32).toInt = 1 := (by decide)
            have := i_bd x5_6
            (first | have := sp_addx x5_6 (1 : Int32) (by omega) | obtain ⟨k4, hk4⟩ := sp_add x5_6 (1 : Int32))
            exact ih6 r10 (x5_6 + 1) (by omega) (by omega) (by omega)
  unfold g_X7_hourOfLast
  have : (-1 : Int32).toInt = -1 := (by decide)
  have : (0 : Int32).toInt = 0 := (by decide)
  exact loop6 2000 (-1) 0 (by omega) (by omega) (by omega)
set_option maxHeartbeats 4000000 in
theorem k_X7_march (v : Mm) (hI_v : PW rgX v) (a1 : Int32) (a2 : Int32) (a3 : Int32) (a4 : Int32) : ok (g_X7_march v a1 a2 a3 a4) (fun z => PW rgX z.2) := by
  unfold g_X7_march
  refine ok_bind (k_X7_noGate v hI_v  ) (fun r2 hr2 => ?_)
  replace hr2 : (0 : Int) ≤ Int32.toInt r2 ∧ Int32.toInt r2 ≤ (1 : Int) := hr2
  obtain ⟨hr2_lo, hr2_hi⟩ := hr2
  refine ok_ite _ (fun c4 => ?_) (fun c4 => ?_)
  · skip
    have ic4 := i_eq c4
    have : (0 : Int32).toInt = 0 := (by decide)
    refine ok_bind (k_X7_isRow v hI_v a1 ) (fun r6 hr6 => ?_)
    replace hr6 : (0 : Int) ≤ Int32.toInt r6 ∧ Int32.toInt r6 ≤ (1 : Int) ∧ ((Int32.toInt r6 = 0 ∨ (0 ≤ Int32.toInt a1 ∧ Int32.toInt a1 ≤ 7))) := hr6
    obtain ⟨hr6_lo, hr6_hi, hr6_p0⟩ := hr6
    refine ok_ite _ (fun c8 => ?_) (fun c8 => ?_)
    · skip
      have ic8 := i_eq c8
      try clear hr6_p0
      have : (0 : Int32).toInt = 0 := (by decide)
      refine ok_some ?_
      show PW rgX v
      have : (-1000001 : Int32).toInt = -1000001 := (by decide)
      exact hI_v
    · skip
      have ic8 : Int32.toInt r6 = 1 := one_of hr6_lo hr6_hi c8
      try replace hr6_p0 : (0 ≤ Int32.toInt a1 ∧ Int32.toInt a1 ≤ 7) := orr hr6_p0 ic8
      have : (0 : Int32).toInt = 0 := (by decide)
      refine ok_ite _ (fun c9 => ?_) (fun c9 => ?_)
      · skip
        have ic9 := i_lt c9
        have : (1 : Int32).toInt = 1 := (by decide)
        refine ok_some ?_
        show PW rgX v
        have : (-1000001 : Int32).toInt = -1000001 := (by decide)
        exact hI_v
      · skip
        have ic9 := i_nlt c9
        have : (1 : Int32).toInt = 1 := (by decide)
        refine ok_ite _ (fun c10 => ?_) (fun c10 => ?_)
        · skip
          have ic10 := i_lt c10
          have : (6 : Int32).toInt = 6 := (by decide)
          refine ok_some ?_
          show PW rgX v
          have : (-1000001 : Int32).toInt = -1000001 := (by decide)
          exact hI_v
        · skip
          have ic10 := i_nlt c10
          have : (6 : Int32).toInt = 6 := (by decide)
          refine ok_ite _ (fun c11 => ?_) (fun c11 => ?_)
          · skip
            have ic11 := i_lt c11
            have : (-1 : Int32).toInt = -1 := (by decide)
            refine ok_some ?_
            show PW rgX v
            have : (-1000001 : Int32).toInt = -1000001 := (by decide)
            exact hI_v
          · skip
            have ic11 := i_nlt c11
            have : (-1 : Int32).toInt = -1 := (by decide)
            refine ok_ite _ (fun c12 => ?_) (fun c12 => ?_)
            · skip
              have ic12 := i_lt c12
              refine ok_grd _ ?_ ?_
              · skip
                exact gr (by omega) (by omega)
              refine ok_bind (k_X5_findingOf v hI_v (Int32.toNatClampNeg a1) a2 a3 ) (fun r15 hr15 => ?_)
              replace hr15 : (0 : Int) ≤ Int32.toInt r15 ∧ Int32.toInt r15 ≤ (2 : Int) ∧ (¬ (Int32.toInt r15 = 0) ∨ (0 ≤ Int32.toInt a2 ∧ 0 ≤ Int32.toInt a3 ∧ Int32.toInt a2 + Int32.toInt a3 ≤ 40)) := hr15
              obtain ⟨hr15_lo, hr15_hi, hr15_p0⟩ := hr15
              refine ok_ite _ (fun c17 => ?_) (fun c17 => ?_)
              · skip
                have ic17 := i_eq c17
                have : (0 : Int32).toInt = 0 := (by decide)
                refine ok_grd _ ?_ ?_
                · skip
                  exact gr (by omega) (by omega)
                refine ok_ite _ (fun c19 => ?_) (fun c19 => ?_)
                · skip
                  have ic19 := i_eq c19
                  have : (-1 : Int32).toInt = -1 := (by decide)
                  refine ok_bind (k_X7_hourOfLast v hI_v (Int32.toNatClampNeg a1) a2 a3 (by omega) (by omega) (by omega)) (fun r21 hr21 => ?_)
                  clear hr21
                  refine ok_kb2 (k_X7_unfound v hI_v r21 ) (fun r24 v25 hr24 => ?_)
                  replace hr24 : PW rgX v25 := hr24
                  have hI_v25 := hr24
                  clear hr24
                  refine ok_some ?_
                  show PW rgX v25
                  exact hI_v25
                · skip
                  have ic19 := i_ne c19
                  have : (-1 : Int32).toInt = -1 := (by decide)
                  refine ok_bind (k_X7_hourOfLast v hI_v (Int32.toNatClampNeg a1) a2 (a4 + 1) (by omega) (by have : (1 : Int32).toInt = 1 := (by decide); have := i_bd a4; (first | have := sp_addx a4 (1 : Int32) (by omega) | obtain ⟨k1, hk1⟩ := sp_add a4 (1 : Int32)); omega) (by have : (1 : Int32).toInt = 1 := (by decide); have := i_bd a4; (first | have := sp_addx a4 (1 : Int32) (by omega) | obtain ⟨k2, hk2⟩ := sp_add a4 (1 : Int32)); omega)) (fun r27 hr27 => ?_)
                  clear hr27
                  refine ok_kb2 (k_X7_unfound v hI_v r27 ) (fun r30 v31 hr30 => ?_)
                  replace hr30 : PW rgX v31 := hr30
                  have hI_v31 := hr30
                  clear hr30
                  refine ok_some ?_
                  show PW rgX v31
                  exact hI_v31
              · skip
                have ic17 := i_ne c17
                have : (0 : Int32).toInt = 0 := (by decide)
                refine ok_kb2 (k_X7_found v hI_v r15 ) (fun r33 v34 hr33 => ?_)
                replace hr33 : PW rgX v34 := hr33
                have hI_v34 := hr33
                clear hr33
                refine ok_some ?_
                show PW rgX v34
                exact hI_v34
            · skip
              have ic12 := i_nlt c12
              refine ok_some ?_
              show PW rgX v
              have : (-1000001 : Int32).toInt = -1000001 := (by decide)
              exact hI_v
  · skip
    have ic4 : Int32.toInt r2 = 1 := one_of hr2_lo hr2_hi c4
    have : (0 : Int32).toInt = 0 := (by decide)
    refine ok_some ?_
    show PW rgX v
    have : (-1000002 : Int32).toInt = -1000002 := (by decide)
    exact hI_v
set_option maxHeartbeats 4000000 in
theorem k_X7_cheap (v : Mm) (hI_v : PW rgX v) (a1 : Int32) (a2 : Int32) (a3 : Int32) : ok (g_X7_cheap v a1 a2 a3) (fun z => True) := by
  unfold g_X7_cheap
  refine ok_bind (k_X7_noGate v hI_v  ) (fun r2 hr2 => ?_)
  replace hr2 : (0 : Int) ≤ Int32.toInt r2 ∧ Int32.toInt r2 ≤ (1 : Int) := hr2
  obtain ⟨hr2_lo, hr2_hi⟩ := hr2
  refine ok_ite _ (fun c4 => ?_) (fun c4 => ?_)
  · skip
    have ic4 := i_eq c4
    have : (0 : Int32).toInt = 0 := (by decide)
    refine ok_bind (k_X7_areWords v hI_v a1 ) (fun r6 hr6 => ?_)
    replace hr6 : (0 : Int) ≤ Int32.toInt r6 ∧ Int32.toInt r6 ≤ (1 : Int) ∧ ((Int32.toInt r6 = 0 ∨ (0 ≤ Int32.toInt a1 ∧ Int32.toInt a1 ≤ 63))) := hr6
    obtain ⟨hr6_lo, hr6_hi, hr6_p0⟩ := hr6
    refine ok_ite _ (fun c8 => ?_) (fun c8 => ?_)
    · skip
      have ic8 := i_eq c8
      try clear hr6_p0
      have : (0 : Int32).toInt = 0 := (by decide)
      refine ok_some ?_
      show True
      have : (-1000001 : Int32).toInt = -1000001 := (by decide)
      trivial
    · skip
      have ic8 : Int32.toInt r6 = 1 := one_of hr6_lo hr6_hi c8
      try replace hr6_p0 : (0 ≤ Int32.toInt a1 ∧ Int32.toInt a1 ≤ 63) := orr hr6_p0 ic8
      have : (0 : Int32).toInt = 0 := (by decide)
      refine ok_bind (k_X7_isAhead v hI_v a2 ) (fun r10 hr10 => ?_)
      replace hr10 : (0 : Int) ≤ Int32.toInt r10 ∧ Int32.toInt r10 ≤ (1 : Int) ∧ ((Int32.toInt r10 = 0 ∨ (0 ≤ Int32.toInt a2 ∧ Int32.toInt a2 ≤ 60))) := hr10
      obtain ⟨hr10_lo, hr10_hi, hr10_p0⟩ := hr10
      refine ok_ite _ (fun c12 => ?_) (fun c12 => ?_)
      · skip
        have ic12 := i_eq c12
        try clear hr10_p0
        have : (0 : Int32).toInt = 0 := (by decide)
        refine ok_some ?_
        show True
        have : (-1000001 : Int32).toInt = -1000001 := (by decide)
        trivial
      · skip
        have ic12 : Int32.toInt r10 = 1 := one_of hr10_lo hr10_hi c12
        try replace hr10_p0 : (0 ≤ Int32.toInt a2 ∧ Int32.toInt a2 ≤ 60) := orr hr10_p0 ic12
        have : (0 : Int32).toInt = 0 := (by decide)
        refine ok_ite _ (fun c13 => ?_) (fun c13 => ?_)
        · skip
          have ic13 := i_lt c13
          have : (0 : Int32).toInt = 0 := (by decide)
          refine ok_some ?_
          show True
          have : (-1000001 : Int32).toInt = -1000001 := (by decide)
          trivial
        · skip
          have ic13 := i_nlt c13
          have : (0 : Int32).toInt = 0 := (by decide)
          refine ok_ite _ (fun c14 => ?_) (fun c14 => ?_)
          · skip
            have ic14 := i_le c14
            have : (1 : Int32).toInt = 1 := (by decide)
            refine ok_bind (k_X2_guardsAgainst v hI_v 0 a1 a2 (by omega)) (fun r16 hr16 => ?_)
            clear hr16
            refine ok_ite _ (fun c18 => ?_) (fun c18 => ?_)
            · skip
              have ic18 := i_eq c18
              have : (0 : Int32).toInt = 0 := (by decide)
              refine ok_bind (k_X2_feeOf v hI_v 0 r16 ) (fun r20 hr20 => ?_)
              clear hr20
              refine ok_some ?_
              show True
              trivial
            · skip
              have ic18 := i_ne c18
              have : (0 : Int32).toInt = 0 := (by decide)
              refine ok_some ?_
              show True
              trivial
          · skip
            have ic14 := i_nle c14
            have : (1 : Int32).toInt = 1 := (by decide)
            refine ok_some ?_
            show True
            have : (-1000001 : Int32).toInt = -1000001 := (by decide)
            trivial
  · skip
    have ic4 : Int32.toInt r2 = 1 := one_of hr2_lo hr2_hi c4
    have : (0 : Int32).toInt = 0 := (by decide)
    refine ok_some ?_
    show True
    have : (-1000002 : Int32).toInt = -1000002 := (by decide)
    trivial
set_option maxHeartbeats 4000000 in
theorem k_X7_near (v : Mm) (hI_v : PW rgX v) (a1 : Int32) (a2 : Int32) : ok (g_X7_near v a1 a2) (fun z => True) := by
  unfold g_X7_near
  refine ok_bind (k_X7_isWord v hI_v a1 ) (fun r2 hr2 => ?_)
  replace hr2 : (0 : Int) ≤ Int32.toInt r2 ∧ Int32.toInt r2 ≤ (1 : Int) ∧ ((Int32.toInt r2 = 0 ∨ (0 ≤ Int32.toInt a1 ∧ Int32.toInt a1 ≤ 5))) := hr2
  obtain ⟨hr2_lo, hr2_hi, hr2_p0⟩ := hr2
  refine ok_ite _ (fun c4 => ?_) (fun c4 => ?_)
  · skip
    have ic4 := i_eq c4
    try clear hr2_p0
    have : (0 : Int32).toInt = 0 := (by decide)
    refine ok_some ?_
    show True
    have : (-1000001 : Int32).toInt = -1000001 := (by decide)
    trivial
  · skip
    have ic4 : Int32.toInt r2 = 1 := one_of hr2_lo hr2_hi c4
    try replace hr2_p0 : (0 ≤ Int32.toInt a1 ∧ Int32.toInt a1 ≤ 5) := orr hr2_p0 ic4
    have : (0 : Int32).toInt = 0 := (by decide)
    refine ok_ite _ (fun c5 => ?_) (fun c5 => ?_)
    · skip
      have ic5 := i_lt c5
      have : (0 : Int32).toInt = 0 := (by decide)
      refine ok_some ?_
      show True
      have : (-1000001 : Int32).toInt = -1000001 := (by decide)
      trivial
    · skip
      have ic5 := i_nlt c5
      have : (0 : Int32).toInt = 0 := (by decide)
      refine ok_ite _ (fun c6 => ?_) (fun c6 => ?_)
      · skip
        have ic6 := i_le c6
        have : (1 : Int32).toInt = 1 := (by decide)
        refine ok_bind (k_X2_nearestTo v hI_v 0 a1 (by omega)) (fun r8 hr8 => ?_)
        replace hr8 : ((Int32.toInt r8 = -1000000 ∨ (0 ≤ Int32.toInt r8 ∧ Int32.toInt r8 ≤ 5))) := hr8
        have hr8_p0 := hr8
        clear hr8
        refine ok_ite _ (fun c10 => ?_) (fun c10 => ?_)
        · skip
          have ic10 := i_eq c10
          have : (0 : Int32).toInt = 0 := (by decide)
          refine ok_some ?_
          show True
          trivial
        · skip
          have ic10 := i_ne c10
          have : (0 : Int32).toInt = 0 := (by decide)
          refine ok_ite _ (fun c11 => ?_) (fun c11 => ?_)
          · skip
            have ic11 := i_eq c11
            have : (-1000000 : Int32).toInt = -1000000 := (by decide)
            refine ok_some ?_
            show True
            trivial
          · skip
            have ic11 := i_ne c11
            have : (-1000000 : Int32).toInt = -1000000 := (by decide)
            refine ok_bind (k_X2_distance v hI_v 0 a1 r8 (by omega) (by omega)) (fun r13 hr13 => ?_)
            replace hr13 : (0 : Int) ≤ Int32.toInt r13 ∧ Int32.toInt r13 ≤ (3 : Int) := hr13
            obtain ⟨hr13_lo, hr13_hi⟩ := hr13
            refine ok_some ?_
            show True
            trivial
      · skip
        have ic6 := i_nle c6
        have : (1 : Int32).toInt = 1 := (by decide)
        refine ok_some ?_
        show True
        have : (-1000001 : Int32).toInt = -1000001 := (by decide)
        trivial
set_option maxHeartbeats 4000000 in
theorem k_X7_rulesThatTell (v : Mm) (hI_v : PW rgX v) (i1 : Nat) (a2 : Int32) (a3 : Int32) (a4 : Int32) (hx0 : 0 ≤ Int32.toInt a2) (hx1 : Int32.toInt a2 + Int32.toInt a3 ≤ 40) (hx2 : Int32.toInt a3 ≤ 16) : ok (g_X7_rulesThatTell v i1 a2 a3 a4) (fun z => True) := by
  have loop32 : ∀ (n32 : Nat) (x5_32 : Int32) (x6_32 : Int32) (x7_32 : Int32), ((0 : Int) ≤ Int32.toInt x5_32 ∧ Int32.toInt x5_32 ≤ (9 : Int)) → ((0 : Int) ≤ Int32.toInt x7_32 ∧ Int32.toInt x7_32 ≤ (10 : Int)) → (10 - Int32.toInt x7_32 < (n32 : Int)) → ok (g_X7_rulesThatTell_L32  v i1 a2 a3 a4 n32 x5_32 x6_32 x7_32) (fun z => True) := by
    intro n32
    induction n32 with
    | zero =>
      intro x5_32 x6_32 x7_32 hv0_32 hv1_32 hm32
      exfalso
      omega
    | succ n32 ih32 =>
      intro x5_32 x6_32 x7_32 hv0_32 hv1_32 hm32
      show ok (b_X7_rulesThatTell_L32  (g_X7_rulesThatTell_L32  v i1 a2 a3 a4 n32) v i1 a2 a3 a4 x5_32 x6_32 x7_32) _
      unfold b_X7_rulesThatTell_L32
      have loop107 : ∀ (n107 : Nat) (x5_107 : Int32) (x6_107 : Int32) (x7_107 : Int32) (x8_107 : Int32) (x9_107 : Int32) (x10_107 : Int32) (x11_107 : Int32) (x12_107 : Int32), ((0 : Int) ≤ Int32.toInt x5_107 ∧ Int32.toInt x5_107 ≤ (9 : Int)) → ((0 : Int) ≤ Int32.toInt x7_107 ∧ Int32.toInt x7_107 ≤ (9 : Int)) → ((0 : Int) ≤ Int32.toInt x8_107 ∧ Int32.toInt x8_107 ≤ (9 : Int)) → ((0 : Int) ≤ Int32.toInt x9_107 ∧ Int32.toInt x9_107 ≤ (9 : Int)) → ((0 : Int) ≤ Int32.toInt x12_107 ∧ Int32.toInt x12_107 ≤ (16 : Int)) → (10 - Int32.toInt x7_107 < (n32 : Int) + 1) → (16 - Int32.toInt x12_107 < (n107 : Int)) → ok (g_X7_rulesThatTell_L107 (g_X7_rulesThatTell_L32  v i1 a2 a3 a4 n32) v i1 a2 a3 a4 n107 x5_107 x6_107 x7_107 x8_107 x9_107 x10_107 x11_107 x12_107) (fun z => True) := by
        intro n107
        induction n107 with
        | zero =>
          intro x5_107 x6_107 x7_107 x8_107 x9_107 x10_107 x11_107 x12_107 hv0_107 hv1_107 hv2_107 hv3_107 hv4_107 hv5_107 hm107
          exfalso
          omega
        | succ n107 ih107 =>
          intro x5_107 x6_107 x7_107 x8_107 x9_107 x10_107 x11_107 x12_107 hv0_107 hv1_107 hv2_107 hv3_107 hv4_107 hv5_107 hm107
          show ok (b_X7_rulesThatTell_L107 (g_X7_rulesThatTell_L32  v i1 a2 a3 a4 n32) (g_X7_rulesThatTell_L107 (g_X7_rulesThatTell_L32  v i1 a2 a3 a4 n32) v i1 a2 a3 a4 n107) v i1 a2 a3 a4 x5_107 x6_107 x7_107 x8_107 x9_107 x10_107 x11_107 x12_107) _
          unfold b_X7_rulesThatTell_L107
          refine ok_ite _ (fun c1 => ?_) (fun c1 => ?_)
          · skip
            have ic1 := i_le c1
            refine ok_bind (k_X7_bit v hI_v x11_107 ) (fun r3 hr3 => ?_)
            replace hr3 : (0 : Int) ≤ Int32.toInt r3 ∧ Int32.toInt r3 ≤ (1 : Int) := hr3
            obtain ⟨hr3_lo, hr3_hi⟩ := hr3
            (try have := sp_shl (a := r3) (b := x7_107) (by omega) (by omega) (by omega) (by omega))
            (try have := sp_or64 (a := x6_107) (b := (r3 <<< (x7_107 &&& 31))) (by omega) (by omega) (by omega) (by omega))
            (try have := sp_or16 (a := x6_107) (b := (r3 <<< (x7_107 &&& 31))) (by omega) (by omega) (by omega) (by omega))
            have : (1 : Int32).toInt = 1 := (by decide)
            have := i_bd x7_107
            (first | have := sp_addx x7_107 (1 : Int32) (by omega) | obtain ⟨k1, hk1⟩ := sp_add x7_107 (1 : Int32))
            exact ih32 x5_107 (x6_107 ||| (r3 <<< (x7_107 &&& 31))) (x7_107 + 1) (by omega) (by omega) (by omega)
          · skip
            have ic1 := i_nle c1
            refine ok_ite _ (fun c5 => ?_) (fun c5 => ?_)
            · skip
              have ic5 := i_eq c5
              have : (0 : Int32).toInt = 0 := (by decide)
              refine ok_bind (k_X7_bit v hI_v x11_107 ) (fun r7 hr7 => ?_)
              replace hr7 : (0 : Int) ≤ Int32.toInt r7 ∧ Int32.toInt r7 ≤ (1 : Int) := hr7
              obtain ⟨hr7_lo, hr7_hi⟩ := hr7
              (try have := sp_shl (a := r7) (b := x7_107) (by omega) (by omega) (by omega) (by omega))
              (try have := sp_or64 (a := x6_107) (b := (r7 <<< (x7_107 &&& 31))) (by omega) (by omega) (by omega) (by omega))
              (try have := sp_or16 (a := x6_107) (b := (r7 <<< (x7_107 &&& 31))) (by omega) (by omega) (by omega) (by omega))
              have : (1 : Int32).toInt = 1 := (by decide)
              have := i_bd x7_107
              (first | have := sp_addx x7_107 (1 : Int32) (by omega) | obtain ⟨k2, hk2⟩ := sp_add x7_107 (1 : Int32))
              exact ih32 x5_107 (x6_107 ||| (r7 <<< (x7_107 &&& 31))) (x7_107 + 1) (by omega) (by omega) (by omega)
            · skip
              have ic5 := i_ne c5
              have : (0 : Int32).toInt = 0 := (by decide)
              refine ok_bind (k_X2_secretBy v hI_v 0 x8_107 x9_107 x10_107 ((v 10 0 4) + x12_107) (by omega) (by omega) (by have : (0 : Int) ≤ (v 10 0 4).toInt ∧ (v 10 0 4).toInt ≤ (999 : Int) := hI_v 10 0 4; have := i_bd (v 10 0 4); have := i_bd x12_107; (first | have := sp_addx (v 10 0 4) x12_107 (by omega) | obtain ⟨k3, hk3⟩ := sp_add (v 10 0 4) x12_107); omega)) (fun r10 hr10 => ?_)
              replace hr10 : (0 : Int) ≤ Int32.toInt r10 ∧ Int32.toInt r10 ≤ (5 : Int) := hr10
              obtain ⟨hr10_lo, hr10_hi⟩ := hr10
              refine ok_grd _ ?_ ?_
              · skip
                have := i_bd a2
                have := i_bd x12_107
                (first | have := sp_addx a2 x12_107 (by omega) | obtain ⟨k4, hk4⟩ := sp_add a2 x12_107)
                exact gr (by omega) (by omega)
              refine ok_ite _ (fun c13 => ?_) (fun c13 => ?_)
              · skip
                have ic13 := i_eq c13
                have : (1 : Int32).toInt = 1 := (by decide)
                have := i_bd x12_107
                (first | have := sp_addx x12_107 (1 : Int32) (by omega) | obtain ⟨k5, hk5⟩ := sp_add x12_107 (1 : Int32))
                exact ih107 x5_107 x6_107 x7_107 x8_107 x9_107 x10_107 1 (x12_107 + 1) (by omega) (by omega) (by omega) (by omega) (by omega) (by omega) (by omega)
              · skip
                have ic13 := i_ne c13
                have : (0 : Int32).toInt = 0 := (by decide)
                have : (1 : Int32).toInt = 1 := (by decide)
                have := i_bd x12_107
                (first | have := sp_addx x12_107 (1 : Int32) (by omega) | obtain ⟨k6, hk6⟩ := sp_add x12_107 (1 : Int32))
                exact ih107 x5_107 x6_107 x7_107 x8_107 x9_107 x10_107 0 (x12_107 + 1) (by omega) (by omega) (by omega) (by omega) (by omega) (by omega) (by omega)
      refine ok_ite _ (fun c14 => ?_) (fun c14 => ?_)
      · skip
        have ic14 := i_lt c14
        refine ok_some ?_
        show True
        trivial
      · skip
        have ic14 := i_nlt c14
        refine ok_ite _ (fun c15 => ?_) (fun c15 => ?_)
        · skip
          have ic15 := i_eq c15
          have : (0 : Int32).toInt = 0 := (by decide)
          refine ok_ite _ (fun c16 => ?_) (fun c16 => ?_)
          · skip
            have ic16 := i_eq c16
            have : (1 : Int32).toInt = 1 := (by decide)
            refine ok_ite _ (fun c17 => ?_) (fun c17 => ?_)
            · skip
              have ic17 := i_eq c17
              have : (2 : Int32).toInt = 2 := (by decide)
              have : (1 : Int32).toInt = 1 := (by decide)
              have : (0 : Int32).toInt = 0 := (by decide)
              exact loop107 2000 x5_32 x6_32 x7_32 x7_32 x7_32 x7_32 1 0 (by omega) (by omega) (by omega) (by omega) (by omega) (by omega) (by omega)
            · skip
              have ic17 := i_ne c17
              have : (2 : Int32).toInt = 2 := (by decide)
              have : (0 : Int) ≤ (v 6 0 5).toInt ∧ (v 6 0 5).toInt ≤ (6 : Int) := hI_v 6 0 5
              have : (1 : Int32).toInt = 1 := (by decide)
              have : (0 : Int32).toInt = 0 := (by decide)
              exact loop107 2000 x5_32 x6_32 x7_32 x7_32 x7_32 (v 6 0 5) 1 0 (by omega) (by omega) (by omega) (by omega) (by omega) (by omega) (by omega)
          · skip
            have ic16 := i_ne c16
            have : (1 : Int32).toInt = 1 := (by decide)
            refine ok_ite _ (fun c18 => ?_) (fun c18 => ?_)
            · skip
              have ic18 := i_eq c18
              have : (2 : Int32).toInt = 2 := (by decide)
              have : (0 : Int) ≤ (v 6 0 4).toInt ∧ (v 6 0 4).toInt ≤ (9 : Int) := hI_v 6 0 4
              have : (1 : Int32).toInt = 1 := (by decide)
              have : (0 : Int32).toInt = 0 := (by decide)
              exact loop107 2000 x5_32 x6_32 x7_32 x7_32 (v 6 0 4) x7_32 1 0 (by omega) (by omega) (by omega) (by omega) (by omega) (by omega) (by omega)
            · skip
              have ic18 := i_ne c18
              have : (2 : Int32).toInt = 2 := (by decide)
              have : (0 : Int) ≤ (v 6 0 4).toInt ∧ (v 6 0 4).toInt ≤ (9 : Int) := hI_v 6 0 4
              have : (0 : Int) ≤ (v 6 0 5).toInt ∧ (v 6 0 5).toInt ≤ (6 : Int) := hI_v 6 0 5
              have : (1 : Int32).toInt = 1 := (by decide)
              have : (0 : Int32).toInt = 0 := (by decide)
              exact loop107 2000 x5_32 x6_32 x7_32 x7_32 (v 6 0 4) (v 6 0 5) 1 0 (by omega) (by omega) (by omega) (by omega) (by omega) (by omega) (by omega)
        · skip
          have ic15 := i_ne c15
          have : (0 : Int32).toInt = 0 := (by decide)
          refine ok_ite _ (fun c19 => ?_) (fun c19 => ?_)
          · skip
            have ic19 := i_eq c19
            have : (1 : Int32).toInt = 1 := (by decide)
            refine ok_ite _ (fun c20 => ?_) (fun c20 => ?_)
            · skip
              have ic20 := i_eq c20
              have : (2 : Int32).toInt = 2 := (by decide)
              have : (0 : Int) ≤ (v 10 0 5).toInt ∧ (v 10 0 5).toInt ≤ (9 : Int) := hI_v 10 0 5
              have : (1 : Int32).toInt = 1 := (by decide)
              have : (0 : Int32).toInt = 0 := (by decide)
              exact loop107 2000 x5_32 x6_32 x7_32 (v 10 0 5) x7_32 x7_32 1 0 (by omega) (by omega) (by omega) (by omega) (by omega) (by omega) (by omega)
            · skip
              have ic20 := i_ne c20
              have : (2 : Int32).toInt = 2 := (by decide)
              have : (0 : Int) ≤ (v 10 0 5).toInt ∧ (v 10 0 5).toInt ≤ (9 : Int) := hI_v 10 0 5
              have : (0 : Int) ≤ (v 6 0 5).toInt ∧ (v 6 0 5).toInt ≤ (6 : Int) := hI_v 6 0 5
              have : (1 : Int32).toInt = 1 := (by decide)
              have : (0 : Int32).toInt = 0 := (by decide)
              exact loop107 2000 x5_32 x6_32 x7_32 (v 10 0 5) x7_32 (v 6 0 5) 1 0 (by omega) (by omega) (by omega) (by omega) (by omega) (by omega) (by omega)
          · skip
            have ic19 := i_ne c19
            have : (1 : Int32).toInt = 1 := (by decide)
            refine ok_ite _ (fun c21 => ?_) (fun c21 => ?_)
            · skip
              have ic21 := i_eq c21
              have : (2 : Int32).toInt = 2 := (by decide)
              have : (0 : Int) ≤ (v 10 0 5).toInt ∧ (v 10 0 5).toInt ≤ (9 : Int) := hI_v 10 0 5
              have : (0 : Int) ≤ (v 6 0 4).toInt ∧ (v 6 0 4).toInt ≤ (9 : Int) := hI_v 6 0 4
              have : (1 : Int32).toInt = 1 := (by decide)
              have : (0 : Int32).toInt = 0 := (by decide)
              exact loop107 2000 x5_32 x6_32 x7_32 (v 10 0 5) (v 6 0 4) x7_32 1 0 (by omega) (by omega) (by omega) (by omega) (by omega) (by omega) (by omega)
            · skip
              have ic21 := i_ne c21
              have : (2 : Int32).toInt = 2 := (by decide)
              have : (0 : Int) ≤ (v 10 0 5).toInt ∧ (v 10 0 5).toInt ≤ (9 : Int) := hI_v 10 0 5
              have : (0 : Int) ≤ (v 6 0 4).toInt ∧ (v 6 0 4).toInt ≤ (9 : Int) := hI_v 6 0 4
              have : (0 : Int) ≤ (v 6 0 5).toInt ∧ (v 6 0 5).toInt ≤ (6 : Int) := hI_v 6 0 5
              have : (1 : Int32).toInt = 1 := (by decide)
              have : (0 : Int32).toInt = 0 := (by decide)
              exact loop107 2000 x5_32 x6_32 x7_32 (v 10 0 5) (v 6 0 4) (v 6 0 5) 1 0 (by omega) (by omega) (by omega) (by omega) (by omega) (by omega) (by omega)
  unfold g_X7_rulesThatTell
  refine ok_ite _ (fun c22 => ?_) (fun c22 => ?_)
  · skip
    have ic22 := i_eq c22
    have : (2 : Int32).toInt = 2 := (by decide)
    have : (6 : Int32).toInt = 6 := (by decide)
    have : (0 : Int32).toInt = 0 := (by decide)
    exact loop32 2000 6 0 0 (by omega) (by omega) (by omega)
  · skip
    have ic22 := i_ne c22
    have : (2 : Int32).toInt = 2 := (by decide)
    refine ok_ite _ (fun c23 => ?_) (fun c23 => ?_)
    · skip
      have ic23 := i_eq c23
      have : (1 : Int32).toInt = 1 := (by decide)
      have : (9 : Int32).toInt = 9 := (by decide)
      have : (0 : Int32).toInt = 0 := (by decide)
      exact loop32 2000 9 0 0 (by omega) (by omega) (by omega)
    · skip
      have ic23 := i_ne c23
      have : (1 : Int32).toInt = 1 := (by decide)
      have : (9 : Int32).toInt = 9 := (by decide)
      have : (0 : Int32).toInt = 0 := (by decide)
      exact loop32 2000 9 0 0 (by omega) (by omega) (by omega)
set_option maxHeartbeats 4000000 in
theorem k_X7_rules (v : Mm) (hI_v : PW rgX v) (a1 : Int32) (a2 : Int32) (a3 : Int32) (a4 : Int32) : ok (g_X7_rules v a1 a2 a3 a4) (fun z => PW rgX z.2) := by
  unfold g_X7_rules
  refine ok_bind (k_X7_noGate v hI_v  ) (fun r2 hr2 => ?_)
  replace hr2 : (0 : Int) ≤ Int32.toInt r2 ∧ Int32.toInt r2 ≤ (1 : Int) := hr2
  obtain ⟨hr2_lo, hr2_hi⟩ := hr2
  refine ok_ite _ (fun c4 => ?_) (fun c4 => ?_)
  · skip
    have ic4 := i_eq c4
    have : (0 : Int32).toInt = 0 := (by decide)
    refine ok_bind (k_X7_isRow v hI_v a1 ) (fun r6 hr6 => ?_)
    replace hr6 : (0 : Int) ≤ Int32.toInt r6 ∧ Int32.toInt r6 ≤ (1 : Int) ∧ ((Int32.toInt r6 = 0 ∨ (0 ≤ Int32.toInt a1 ∧ Int32.toInt a1 ≤ 7))) := hr6
    obtain ⟨hr6_lo, hr6_hi, hr6_p0⟩ := hr6
    refine ok_ite _ (fun c8 => ?_) (fun c8 => ?_)
    · skip
      have ic8 := i_eq c8
      try clear hr6_p0
      have : (0 : Int32).toInt = 0 := (by decide)
      refine ok_some ?_
      show PW rgX v
      have : (-1000001 : Int32).toInt = -1000001 := (by decide)
      exact hI_v
    · skip
      have ic8 : Int32.toInt r6 = 1 := one_of hr6_lo hr6_hi c8
      try replace hr6_p0 : (0 ≤ Int32.toInt a1 ∧ Int32.toInt a1 ≤ 7) := orr hr6_p0 ic8
      have : (0 : Int32).toInt = 0 := (by decide)
      refine ok_ite _ (fun c9 => ?_) (fun c9 => ?_)
      · skip
        have ic9 := i_lt c9
        have : (1 : Int32).toInt = 1 := (by decide)
        refine ok_some ?_
        show PW rgX v
        have : (-1000001 : Int32).toInt = -1000001 := (by decide)
        exact hI_v
      · skip
        have ic9 := i_nlt c9
        have : (1 : Int32).toInt = 1 := (by decide)
        refine ok_ite _ (fun c10 => ?_) (fun c10 => ?_)
        · skip
          have ic10 := i_lt c10
          have : (16 : Int32).toInt = 16 := (by decide)
          refine ok_some ?_
          show PW rgX v
          have : (-1000001 : Int32).toInt = -1000001 := (by decide)
          exact hI_v
        · skip
          have ic10 := i_nlt c10
          have : (16 : Int32).toInt = 16 := (by decide)
          refine ok_ite _ (fun c11 => ?_) (fun c11 => ?_)
          · skip
            have ic11 := i_lt c11
            have : (0 : Int32).toInt = 0 := (by decide)
            refine ok_some ?_
            show PW rgX v
            have : (-1000001 : Int32).toInt = -1000001 := (by decide)
            exact hI_v
          · skip
            have ic11 := i_nlt c11
            have : (0 : Int32).toInt = 0 := (by decide)
            refine ok_ite _ (fun c12 => ?_) (fun c12 => ?_)
            · skip
              have ic12 := i_le c12
              have : (2 : Int32).toInt = 2 := (by decide)
              refine ok_grd _ ?_ ?_
              · skip
                exact gr (by omega) (by omega)
              refine ok_bind (k_X5_findingOf v hI_v (Int32.toNatClampNeg a1) a2 a3 ) (fun r15 hr15 => ?_)
              replace hr15 : (0 : Int) ≤ Int32.toInt r15 ∧ Int32.toInt r15 ≤ (2 : Int) ∧ (¬ (Int32.toInt r15 = 0) ∨ (0 ≤ Int32.toInt a2 ∧ 0 ≤ Int32.toInt a3 ∧ Int32.toInt a2 + Int32.toInt a3 ≤ 40)) := hr15
              obtain ⟨hr15_lo, hr15_hi, hr15_p0⟩ := hr15
              refine ok_ite _ (fun c17 => ?_) (fun c17 => ?_)
              · skip
                have ic17 := i_eq c17
                have : (0 : Int32).toInt = 0 := (by decide)
                refine ok_grd _ ?_ ?_
                · skip
                  exact gr (by omega) (by omega)
                refine ok_bind (k_X7_rulesThatTell v hI_v (Int32.toNatClampNeg a1) a2 a3 a4 (by omega) (by omega) (by omega)) (fun r20 hr20 => ?_)
                clear hr20
                refine ok_kb2 (k_X7_unfound v hI_v r20 ) (fun r23 v24 hr23 => ?_)
                replace hr23 : PW rgX v24 := hr23
                have hI_v24 := hr23
                clear hr23
                refine ok_some ?_
                show PW rgX v24
                exact hI_v24
              · skip
                have ic17 := i_ne c17
                have : (0 : Int32).toInt = 0 := (by decide)
                refine ok_kb2 (k_X7_found v hI_v r15 ) (fun r26 v27 hr26 => ?_)
                replace hr26 : PW rgX v27 := hr26
                have hI_v27 := hr26
                clear hr26
                refine ok_some ?_
                show PW rgX v27
                exact hI_v27
            · skip
              have ic12 := i_nle c12
              have : (2 : Int32).toInt = 2 := (by decide)
              refine ok_some ?_
              show PW rgX v
              have : (-1000001 : Int32).toInt = -1000001 := (by decide)
              exact hI_v
  · skip
    have ic4 : Int32.toInt r2 = 1 := one_of hr2_lo hr2_hi c4
    have : (0 : Int32).toInt = 0 := (by decide)
    refine ok_some ?_
    show PW rgX v
    have : (-1000002 : Int32).toInt = -1000002 := (by decide)
    exact hI_v
set_option maxHeartbeats 4000000 in
theorem k_X7_fitsTold (v : Mm) (hI_v : PW rgX v) (a1 : Int32) (a2 : Int32) (i3 : Nat) (a4 : Int32) (h_a2 : (0 : Int) ≤ a2.toInt ∧ a2.toInt ≤ (5 : Int)) (hx0 : 0 ≤ Int32.toInt a4) (hx1 : Int32.toInt a4 + Int32.toInt (v 6 0 6) ≤ 40) : ok (g_X7_fitsTold v a1 a2 i3 a4) (fun z => (0 : Int) ≤ Int32.toInt z ∧ Int32.toInt z ≤ (1 : Int)) := by
  have : (0 : Int) ≤ (v 6 0 6).toInt ∧ (v 6 0 6).toInt ≤ (6 : Int) := hI_v 6 0 6
  have loop3 : ∀ (n3 : Nat) (x5_3 : Int32), ((0 : Int) ≤ Int32.toInt x5_3 ∧ Int32.toInt x5_3 ≤ (6 : Int)) → (6 - Int32.toInt x5_3 < (n3 : Int)) → ok (g_X7_fitsTold_L3  v i3 a1 a2 a4 n3 x5_3) (fun z => (0 : Int) ≤ Int32.toInt z ∧ Int32.toInt z ≤ (1 : Int)) := by
    intro n3
    induction n3 with
    | zero =>
      intro x5_3 hv0_3 hm3
      exfalso
      omega
    | succ n3 ih3 =>
      intro x5_3 hv0_3 hm3
      show ok (b_X7_fitsTold_L3  (g_X7_fitsTold_L3  v i3 a1 a2 a4 n3) v i3 a1 a2 a4 x5_3) _
      unfold b_X7_fitsTold_L3
      refine ok_ite _ (fun c1 => ?_) (fun c1 => ?_)
      · skip
        have ic1 := i_le c1
        have : (0 : Int) ≤ (v 6 0 6).toInt ∧ (v 6 0 6).toInt ≤ (6 : Int) := hI_v 6 0 6
        refine ok_some ?_
        show (0 : Int) ≤ Int32.toInt (1 : Int32) ∧ Int32.toInt (1 : Int32) ≤ (1 : Int)
        have : (1 : Int32).toInt = 1 := (by decide)
        omega
      · skip
        have ic1 := i_nle c1
        have : (0 : Int) ≤ (v 6 0 6).toInt ∧ (v 6 0 6).toInt ≤ (6 : Int) := hI_v 6 0 6
        refine ok_bind (k_X2_wouldTake v hI_v 0 a1 x5_3 a2 (v 10 0 4) (by omega) (by omega)) (fun r3 hr3 => ?_)
        replace hr3 : (0 : Int) ≤ Int32.toInt r3 ∧ Int32.toInt r3 ≤ (1 : Int) := hr3
        obtain ⟨hr3_lo, hr3_hi⟩ := hr3
        refine ok_bind (k_X7_bit v hI_v r3 ) (fun r6 hr6 => ?_)
        replace hr6 : (0 : Int) ≤ Int32.toInt r6 ∧ Int32.toInt r6 ≤ (1 : Int) := hr6
        obtain ⟨hr6_lo, hr6_hi⟩ := hr6
        refine ok_grd _ ?_ ?_
        · skip
          have := i_bd a4
          have := i_bd x5_3
          (first | have := sp_addx a4 x5_3 (by omega) | obtain ⟨k1, hk1⟩ := sp_add a4 x5_3)
          exact gr (by omega) (by omega)
        refine ok_ite _ (fun c9 => ?_) (fun c9 => ?_)
        · skip
          have ic9 := i_eq c9
          have : (1 : Int32).toInt = 1 := (by decide)
          have := i_bd x5_3
          (first | have := sp_addx x5_3 (1 : Int32) (by omega) | obtain ⟨k2, hk2⟩ := sp_add x5_3 (1 : Int32))
          exact ih3 (x5_3 + 1) (by omega) (by omega)
        · skip
          have ic9 := i_ne c9
          refine ok_some ?_
          show (0 : Int) ≤ Int32.toInt (0 : Int32) ∧ Int32.toInt (0 : Int32) ≤ (1 : Int)
          have : (0 : Int32).toInt = 0 := (by decide)
          omega
  unfold g_X7_fitsTold
  have : (0 : Int) ≤ (v 6 0 6).toInt ∧ (v 6 0 6).toInt ≤ (6 : Int) := hI_v 6 0 6
  have : (0 : Int32).toInt = 0 := (by decide)
  exact loop3 2000 0 (by omega) (by omega)
set_option maxHeartbeats 4000000 in
theorem k_X7_kindsThatFit (v : Mm) (hI_v : PW rgX v) (i1 : Nat) (a2 : Int32) (hx0 : 0 ≤ Int32.toInt a2) (hx1 : Int32.toInt a2 + Int32.toInt (v 6 0 6) ≤ 40) : ok (g_X7_kindsThatFit v i1 a2) (fun z => True) := by
  have : (0 : Int) ≤ (v 6 0 6).toInt ∧ (v 6 0 6).toInt ≤ (6 : Int) := hI_v 6 0 6
  have loop15 : ∀ (n15 : Nat) (x3_15 : Int32) (x4_15 : Int32) (x5_15 : Int32), ((0 : Int) ≤ Int32.toInt x3_15 ∧ Int32.toInt x3_15 ≤ (5 : Int)) → ((0 : Int) ≤ Int32.toInt x5_15 ∧ Int32.toInt x5_15 ≤ (6 : Int)) → (6 - Int32.toInt x5_15 < (n15 : Int)) → ok (g_X7_kindsThatFit_L15  v i1 a2 n15 x3_15 x4_15 x5_15) (fun z => True) := by
    intro n15
    induction n15 with
    | zero =>
      intro x3_15 x4_15 x5_15 hv0_15 hv1_15 hm15
      exfalso
      omega
    | succ n15 ih15 =>
      intro x3_15 x4_15 x5_15 hv0_15 hv1_15 hm15
      show ok (b_X7_kindsThatFit_L15  (g_X7_kindsThatFit_L15  v i1 a2 n15) v i1 a2 x3_15 x4_15 x5_15) _
      unfold b_X7_kindsThatFit_L15
      refine ok_ite _ (fun c1 => ?_) (fun c1 => ?_)
      · skip
        have ic1 := i_lt c1
        have : (5 : Int32).toInt = 5 := (by decide)
        refine ok_some ?_
        show True
        trivial
      · skip
        have ic1 := i_nlt c1
        have : (5 : Int32).toInt = 5 := (by decide)
        refine ok_bind (k_X7_fitsTold v hI_v x5_15 x3_15 i1 a2 (by omega) (by omega) (by omega)) (fun r3 hr3 => ?_)
        replace hr3 : (0 : Int) ≤ Int32.toInt r3 ∧ Int32.toInt r3 ≤ (1 : Int) := hr3
        obtain ⟨hr3_lo, hr3_hi⟩ := hr3
        refine ok_bind (k_X7_bit v hI_v r3 ) (fun r6 hr6 => ?_)
        replace hr6 : (0 : Int) ≤ Int32.toInt r6 ∧ Int32.toInt r6 ≤ (1 : Int) := hr6
        obtain ⟨hr6_lo, hr6_hi⟩ := hr6
        (try have := sp_shl (a := r6) (b := x5_15) (by omega) (by omega) (by omega) (by omega))
        (try have := sp_or64 (a := x4_15) (b := (r6 <<< (x5_15 &&& 31))) (by omega) (by omega) (by omega) (by omega))
        (try have := sp_or16 (a := x4_15) (b := (r6 <<< (x5_15 &&& 31))) (by omega) (by omega) (by omega) (by omega))
        have : (1 : Int32).toInt = 1 := (by decide)
        have := i_bd x5_15
        (first | have := sp_addx x5_15 (1 : Int32) (by omega) | obtain ⟨k1, hk1⟩ := sp_add x5_15 (1 : Int32))
        exact ih15 x3_15 (x4_15 ||| (r6 <<< (x5_15 &&& 31))) (x5_15 + 1) (by omega) (by omega) (by omega)
  unfold g_X7_kindsThatFit
  have : (0 : Int) ≤ (v 6 0 6).toInt ∧ (v 6 0 6).toInt ≤ (6 : Int) := hI_v 6 0 6
  refine ok_bind (k_X2_secretIn v hI_v 0 0 (by have : (0 : Int32).toInt = 0 := (by decide); omega)) (fun r9 hr9 => ?_)
  replace hr9 : (0 : Int) ≤ Int32.toInt r9 ∧ Int32.toInt r9 ≤ (5 : Int) := hr9
  obtain ⟨hr9_lo, hr9_hi⟩ := hr9
  have : (0 : Int32).toInt = 0 := (by decide)
  have : (1 : Int32).toInt = 1 := (by decide)
  exact loop15 2000 r9 0 1 (by omega) (by omega) (by omega)
set_option maxHeartbeats 4000000 in
theorem k_X7_secretsThatFit (v : Mm) (hI_v : PW rgX v) (a1 : Int32) (i2 : Nat) (a3 : Int32) (hx0 : 0 ≤ Int32.toInt a3) (hx1 : Int32.toInt a3 + Int32.toInt (v 6 0 6) ≤ 40) : ok (g_X7_secretsThatFit v a1 i2 a3) (fun z => True) := by
  have : (0 : Int) ≤ (v 6 0 6).toInt ∧ (v 6 0 6).toInt ≤ (6 : Int) := hI_v 6 0 6
  have loop6 : ∀ (n6 : Nat) (x4_6 : Int32) (x5_6 : Int32), ((0 : Int) ≤ Int32.toInt x5_6 ∧ Int32.toInt x5_6 ≤ (6 : Int)) → (6 - Int32.toInt x5_6 < (n6 : Int)) → ok (g_X7_secretsThatFit_L6  v i2 a1 a3 n6 x4_6 x5_6) (fun z => True) := by
    intro n6
    induction n6 with
    | zero =>
      intro x4_6 x5_6 hv0_6 hm6
      exfalso
      omega
    | succ n6 ih6 =>
      intro x4_6 x5_6 hv0_6 hm6
      show ok (b_X7_secretsThatFit_L6  (g_X7_secretsThatFit_L6  v i2 a1 a3 n6) v i2 a1 a3 x4_6 x5_6) _
      unfold b_X7_secretsThatFit_L6
      refine ok_ite _ (fun c1 => ?_) (fun c1 => ?_)
      · skip
        have ic1 := i_le c1
        have : (0 : Int) ≤ (v 6 0 6).toInt ∧ (v 6 0 6).toInt ≤ (6 : Int) := hI_v 6 0 6
        refine ok_some ?_
        show True
        trivial
      · skip
        have ic1 := i_nle c1
        have : (0 : Int) ≤ (v 6 0 6).toInt ∧ (v 6 0 6).toInt ≤ (6 : Int) := hI_v 6 0 6
        refine ok_bind (k_X7_fitsTold v hI_v a1 x5_6 i2 a3 (by omega) (by omega) (by omega)) (fun r3 hr3 => ?_)
        replace hr3 : (0 : Int) ≤ Int32.toInt r3 ∧ Int32.toInt r3 ≤ (1 : Int) := hr3
        obtain ⟨hr3_lo, hr3_hi⟩ := hr3
        refine ok_bind (k_X7_bit v hI_v r3 ) (fun r6 hr6 => ?_)
        replace hr6 : (0 : Int) ≤ Int32.toInt r6 ∧ Int32.toInt r6 ≤ (1 : Int) := hr6
        obtain ⟨hr6_lo, hr6_hi⟩ := hr6
        (try have := sp_shl (a := r6) (b := x5_6) (by omega) (by omega) (by omega) (by omega))
        (try have := sp_or64 (a := x4_6) (b := (r6 <<< (x5_6 &&& 31))) (by omega) (by omega) (by omega) (by omega))
        (try have := sp_or16 (a := x4_6) (b := (r6 <<< (x5_6 &&& 31))) (by omega) (by omega) (by omega) (by omega))
        have : (1 : Int32).toInt = 1 := (by decide)
        have := i_bd x5_6
        (first | have := sp_addx x5_6 (1 : Int32) (by omega) | obtain ⟨k1, hk1⟩ := sp_add x5_6 (1 : Int32))
        exact ih6 (x4_6 ||| (r6 <<< (x5_6 &&& 31))) (x5_6 + 1) (by omega) (by omega)
  unfold g_X7_secretsThatFit
  have : (0 : Int) ≤ (v 6 0 6).toInt ∧ (v 6 0 6).toInt ≤ (6 : Int) := hI_v 6 0 6
  have : (0 : Int32).toInt = 0 := (by decide)
  exact loop6 2000 0 0 (by omega) (by omega)
set_option maxHeartbeats 4000000 in
theorem k_X7_fits (v : Mm) (hI_v : PW rgX v) (a1 : Int32) (a2 : Int32) (a3 : Int32) (a4 : Int32) : ok (g_X7_fits v a1 a2 a3 a4) (fun z => PW rgX z.2) := by
  unfold g_X7_fits
  refine ok_bind (k_X7_isGuard v hI_v a1 ) (fun r2 hr2 => ?_)
  replace hr2 : (0 : Int) ≤ Int32.toInt r2 ∧ Int32.toInt r2 ≤ (1 : Int) ∧ ((Int32.toInt r2 = 0 ∨ (0 ≤ Int32.toInt a1 ∧ Int32.toInt a1 ≤ 3))) := hr2
  obtain ⟨hr2_lo, hr2_hi, hr2_p0⟩ := hr2
  refine ok_ite _ (fun c4 => ?_) (fun c4 => ?_)
  · skip
    have ic4 := i_eq c4
    try clear hr2_p0
    have : (0 : Int32).toInt = 0 := (by decide)
    refine ok_some ?_
    show PW rgX v
    have : (-1000001 : Int32).toInt = -1000001 := (by decide)
    exact hI_v
  · skip
    have ic4 : Int32.toInt r2 = 1 := one_of hr2_lo hr2_hi c4
    try replace hr2_p0 : (0 ≤ Int32.toInt a1 ∧ Int32.toInt a1 ≤ 3) := orr hr2_p0 ic4
    have : (0 : Int32).toInt = 0 := (by decide)
    refine ok_bind (k_X7_isRow v hI_v a2 ) (fun r6 hr6 => ?_)
    replace hr6 : (0 : Int) ≤ Int32.toInt r6 ∧ Int32.toInt r6 ≤ (1 : Int) ∧ ((Int32.toInt r6 = 0 ∨ (0 ≤ Int32.toInt a2 ∧ Int32.toInt a2 ≤ 7))) := hr6
    obtain ⟨hr6_lo, hr6_hi, hr6_p0⟩ := hr6
    refine ok_ite _ (fun c8 => ?_) (fun c8 => ?_)
    · skip
      have ic8 := i_eq c8
      try clear hr6_p0
      have : (0 : Int32).toInt = 0 := (by decide)
      refine ok_some ?_
      show PW rgX v
      have : (-1000001 : Int32).toInt = -1000001 := (by decide)
      exact hI_v
    · skip
      have ic8 : Int32.toInt r6 = 1 := one_of hr6_lo hr6_hi c8
      try replace hr6_p0 : (0 ≤ Int32.toInt a2 ∧ Int32.toInt a2 ≤ 7) := orr hr6_p0 ic8
      have : (0 : Int32).toInt = 0 := (by decide)
      refine ok_ite _ (fun c9 => ?_) (fun c9 => ?_)
      · skip
        have ic9 := i_lt c9
        have : (0 : Int32).toInt = 0 := (by decide)
        refine ok_some ?_
        show PW rgX v
        have : (-1000001 : Int32).toInt = -1000001 := (by decide)
        exact hI_v
      · skip
        have ic9 := i_nlt c9
        have : (0 : Int32).toInt = 0 := (by decide)
        refine ok_ite _ (fun c10 => ?_) (fun c10 => ?_)
        · skip
          have ic10 := i_le c10
          have : (1 : Int32).toInt = 1 := (by decide)
          refine ok_grd _ ?_ ?_
          · skip
            exact gr (by omega) (by omega)
          refine ok_bind (k_X5_findingOf v hI_v (Int32.toNatClampNeg a2) a3 (v 6 0 6) ) (fun r13 hr13 => ?_)
          replace hr13 : (0 : Int) ≤ Int32.toInt r13 ∧ Int32.toInt r13 ≤ (2 : Int) ∧ (¬ (Int32.toInt r13 = 0) ∨ (0 ≤ Int32.toInt a3 ∧ 0 ≤ Int32.toInt (v 6 0 6) ∧ Int32.toInt a3 + Int32.toInt (v 6 0 6) ≤ 40)) := hr13
          obtain ⟨hr13_lo, hr13_hi, hr13_p0⟩ := hr13
          have : (0 : Int) ≤ (v 6 0 6).toInt ∧ (v 6 0 6).toInt ≤ (6 : Int) := hI_v 6 0 6
          have : (0 : Int) ≤ (v 6 0 6).toInt ∧ (v 6 0 6).toInt ≤ (6 : Int) := hI_v 6 0 6
          refine ok_ite _ (fun c15 => ?_) (fun c15 => ?_)
          · skip
            have ic15 := i_eq c15
            have : (0 : Int32).toInt = 0 := (by decide)
            refine ok_ite _ (fun c16 => ?_) (fun c16 => ?_)
            · skip
              have ic16 := i_eq c16
              have : (0 : Int32).toInt = 0 := (by decide)
              refine ok_grd _ ?_ ?_
              · skip
                exact gr (by omega) (by omega)
              refine ok_bind (k_X7_kindsThatFit v hI_v (Int32.toNatClampNeg a2) a3 (by omega) (by omega)) (fun r19 hr19 => ?_)
              clear hr19
              refine ok_kb2 (k_X7_unfound v hI_v r19 ) (fun r22 v23 hr22 => ?_)
              replace hr22 : PW rgX v23 := hr22
              have hI_v23 := hr22
              clear hr22
              refine ok_some ?_
              show PW rgX v23
              exact hI_v23
            · skip
              have ic16 := i_ne c16
              have : (0 : Int32).toInt = 0 := (by decide)
              refine ok_grd _ ?_ ?_
              · skip
                exact gr (by omega) (by omega)
              refine ok_grd _ ?_ ?_
              · skip
                exact gr (by omega) (by omega)
              refine ok_bind (k_X7_secretsThatFit v hI_v (v 8 0 (Int32.toNatClampNeg a1)) (Int32.toNatClampNeg a2) a3 (by omega) (by omega)) (fun r27 hr27 => ?_)
              clear hr27
              refine ok_kb2 (k_X7_unfound v hI_v r27 ) (fun r30 v31 hr30 => ?_)
              replace hr30 : PW rgX v31 := hr30
              have hI_v31 := hr30
              clear hr30
              refine ok_some ?_
              show PW rgX v31
              exact hI_v31
          · skip
            have ic15 := i_ne c15
            have : (0 : Int32).toInt = 0 := (by decide)
            refine ok_kb2 (k_X7_found v hI_v r13 ) (fun r33 v34 hr33 => ?_)
            replace hr33 : PW rgX v34 := hr33
            have hI_v34 := hr33
            clear hr33
            refine ok_some ?_
            show PW rgX v34
            exact hI_v34
        · skip
          have ic10 := i_nle c10
          have : (1 : Int32).toInt = 1 := (by decide)
          refine ok_some ?_
          show PW rgX v
          have : (-1000001 : Int32).toInt = -1000001 := (by decide)
          exact hI_v
set_option maxHeartbeats 4000000 in
theorem k_X7_commonDivisor (v : Mm) (hI_v : PW rgX v) (a0 : Int32) (a1 : Int32) (h_a1 : (0 : Int) ≤ a1.toInt ∧ a1.toInt ≤ (630 : Int)) : ok (g_X7_commonDivisor v a0 a1) (fun z => True) := by
  have loop2 : ∀ (n2 : Nat) (x2_2 : Int32), ((0 : Int) ≤ Int32.toInt x2_2 ∧ Int32.toInt x2_2 ≤ (630 : Int)) → (Int32.toInt x2_2 < (n2 : Int)) → ok (g_X7_commonDivisor_L2  v a0 a1 n2 x2_2) (fun z => True) := by
    intro n2
    induction n2 with
    | zero =>
      intro x2_2 hv0_2 hm2
      exfalso
      omega
    | succ n2 ih2 =>
      intro x2_2 hv0_2 hm2
      show ok (b_X7_commonDivisor_L2  (g_X7_commonDivisor_L2  v a0 a1 n2) v a0 a1 x2_2) _
      unfold b_X7_commonDivisor_L2
      refine ok_ite _ (fun c1 => ?_) (fun c1 => ?_)
      · skip
        have ic1 := i_le c1
        have : (1 : Int32).toInt = 1 := (by decide)
        refine ok_some ?_
        show True
        have : (1 : Int32).toInt = 1 := (by decide)
        trivial
      · skip
        have ic1 := i_nle c1
        have : (1 : Int32).toInt = 1 := (by decide)
        refine ok_grd _ ?_ ?_
        · skip
          exact nz (by omega)
        refine ok_ite _ (fun c3 => ?_) (fun c3 => ?_)
        · skip
          have ic3 := i_eq c3
          (try have := sp_rem (a := a0) (b := x2_2) (by omega) (by omega))
          have : (0 : Int32).toInt = 0 := (by decide)
          refine ok_grd _ ?_ ?_
          · skip
            exact nz (by omega)
          refine ok_ite _ (fun c5 => ?_) (fun c5 => ?_)
          · skip
            have ic5 := i_eq c5
            (try have := sp_rem (a := a1) (b := x2_2) (by omega) (by omega))
            have : (0 : Int32).toInt = 0 := (by decide)
            refine ok_some ?_
            show True
            trivial
          · skip
            have ic5 := i_ne c5
            (try have := sp_rem (a := a1) (b := x2_2) (by omega) (by omega))
            have : (0 : Int32).toInt = 0 := (by decide)
            have : (-1 : Int32).toInt = -1 := (by decide)
            have := i_bd x2_2
            (first | have := sp_addx x2_2 (-1 : Int32) (by omega) | obtain ⟨k1, hk1⟩ := sp_add x2_2 (-1 : Int32))
            exact ih2 (x2_2 + (-1)) (by omega) (by omega)
        · skip
          have ic3 := i_ne c3
          (try have := sp_rem (a := a0) (b := x2_2) (by omega) (by omega))
          have : (0 : Int32).toInt = 0 := (by decide)
          have : (-1 : Int32).toInt = -1 := (by decide)
          have := i_bd x2_2
          (first | have := sp_addx x2_2 (-1 : Int32) (by omega) | obtain ⟨k2, hk2⟩ := sp_add x2_2 (-1 : Int32))
          exact ih2 (x2_2 + (-1)) (by omega) (by omega)
  unfold g_X7_commonDivisor
  exact loop2 2000 a1 (by omega) (by omega)
set_option maxHeartbeats 4000000 in
theorem k_X7_lowest (v : Mm) (hI_v : PW rgX v) (a0 : Int32) (a1 : Int32) : ok (g_X7_lowest v a0 a1) (fun z => True) := by
  unfold g_X7_lowest
  refine ok_ite _ (fun c1 => ?_) (fun c1 => ?_)
  · skip
    have ic1 := i_le c1
    have : (0 : Int32).toInt = 0 := (by decide)
    refine ok_some ?_
    show True
    trivial
  · skip
    have ic1 := i_nle c1
    have : (0 : Int32).toInt = 0 := (by decide)
    refine ok_grd _ ?_ ?_
    · skip
      exact nz (by omega)
    refine ok_some ?_
    show True
    trivial
set_option maxHeartbeats 4000000 in
theorem k_X7_sure (v : Mm) (hI_v : PW rgX v) (a1 : Int32) (a2 : Int32) (a3 : Int32) (a4 : Int32) : ok (g_X7_sure v a1 a2 a3 a4) (fun z => True) := by
  unfold g_X7_sure
  refine ok_bind (k_X7_isWord v hI_v a1 ) (fun r2 hr2 => ?_)
  replace hr2 : (0 : Int) ≤ Int32.toInt r2 ∧ Int32.toInt r2 ≤ (1 : Int) ∧ ((Int32.toInt r2 = 0 ∨ (0 ≤ Int32.toInt a1 ∧ Int32.toInt a1 ≤ 5))) := hr2
  obtain ⟨hr2_lo, hr2_hi, hr2_p0⟩ := hr2
  refine ok_ite _ (fun c4 => ?_) (fun c4 => ?_)
  · skip
    have ic4 := i_eq c4
    try clear hr2_p0
    have : (0 : Int32).toInt = 0 := (by decide)
    refine ok_some ?_
    show True
    have : (-1000001 : Int32).toInt = -1000001 := (by decide)
    trivial
  · skip
    have ic4 : Int32.toInt r2 = 1 := one_of hr2_lo hr2_hi c4
    try replace hr2_p0 : (0 ≤ Int32.toInt a1 ∧ Int32.toInt a1 ≤ 5) := orr hr2_p0 ic4
    have : (0 : Int32).toInt = 0 := (by decide)
    refine ok_bind (k_X7_isHour v hI_v a2 ) (fun r6 hr6 => ?_)
    replace hr6 : (0 : Int) ≤ Int32.toInt r6 ∧ Int32.toInt r6 ≤ (1 : Int) ∧ ((Int32.toInt r6 = 0 ∨ (0 ≤ Int32.toInt a2 ∧ Int32.toInt a2 ≤ 5))) := hr6
    obtain ⟨hr6_lo, hr6_hi, hr6_p0⟩ := hr6
    refine ok_ite _ (fun c8 => ?_) (fun c8 => ?_)
    · skip
      have ic8 := i_eq c8
      try clear hr6_p0
      have : (0 : Int32).toInt = 0 := (by decide)
      refine ok_some ?_
      show True
      have : (-1000001 : Int32).toInt = -1000001 := (by decide)
      trivial
    · skip
      have ic8 : Int32.toInt r6 = 1 := one_of hr6_lo hr6_hi c8
      try replace hr6_p0 : (0 ≤ Int32.toInt a2 ∧ Int32.toInt a2 ≤ 5) := orr hr6_p0 ic8
      have : (0 : Int32).toInt = 0 := (by decide)
      refine ok_ite _ (fun c9 => ?_) (fun c9 => ?_)
      · skip
        have ic9 := i_lt c9
        have : (0 : Int32).toInt = 0 := (by decide)
        refine ok_some ?_
        show True
        have : (-1000001 : Int32).toInt = -1000001 := (by decide)
        trivial
      · skip
        have ic9 := i_nlt c9
        have : (0 : Int32).toInt = 0 := (by decide)
        refine ok_ite _ (fun c10 => ?_) (fun c10 => ?_)
        · skip
          have ic10 := i_lt c10
          have : (10 : Int32).toInt = 10 := (by decide)
          refine ok_some ?_
          show True
          have : (-1000001 : Int32).toInt = -1000001 := (by decide)
          trivial
        · skip
          have ic10 := i_nlt c10
          have : (10 : Int32).toInt = 10 := (by decide)
          refine ok_ite _ (fun c11 => ?_) (fun c11 => ?_)
          · skip
            have ic11 := i_lt c11
            have : (0 : Int32).toInt = 0 := (by decide)
            refine ok_some ?_
            show True
            have : (-1000001 : Int32).toInt = -1000001 := (by decide)
            trivial
          · skip
            have ic11 := i_nlt c11
            have : (0 : Int32).toInt = 0 := (by decide)
            refine ok_ite _ (fun c12 => ?_) (fun c12 => ?_)
            · skip
              have ic12 := i_le c12
              have : (1 : Int32).toInt = 1 := (by decide)
              refine ok_bind (k_X3_agreeing v hI_v 0 ) (fun r14 hr14 => ?_)
              replace hr14 : (0 : Int) ≤ Int32.toInt r14 ∧ Int32.toInt r14 ≤ (63 : Int) := hr14
              obtain ⟨hr14_lo, hr14_hi⟩ := hr14
              refine ok_bind (k_J6_bitCount_0f7a4 v r14 ) (fun r17 hr17 => ?_)
              replace hr17 : (0 : Int) ≤ Int32.toInt r17 ∧ Int32.toInt r17 ≤ (63 : Int) := hr17
              obtain ⟨hr17_lo, hr17_hi⟩ := hr17
              refine ok_bind (k_X3_secretsCatching v hI_v 0 a1 a2 (by omega) (by omega)) (fun r20 hr20 => ?_)
              replace hr20 : (0 : Int) ≤ Int32.toInt r20 ∧ Int32.toInt r20 ≤ (63 : Int) := hr20
              obtain ⟨hr20_lo, hr20_hi⟩ := hr20
              refine ok_bind (k_J6_bitCount_0f7a4 v (r14 &&& r20) ) (fun r23 hr23 => ?_)
              replace hr23 : (0 : Int) ≤ Int32.toInt r23 ∧ Int32.toInt r23 ≤ (63 : Int) := hr23
              obtain ⟨hr23_lo, hr23_hi⟩ := hr23
              refine ok_ite _ (fun c25 => ?_) (fun c25 => ?_)
              · skip
                have ic25 := i_eq c25
                have : (0 : Int32).toInt = 0 := (by decide)
                refine ok_ite _ (fun c26 => ?_) (fun c26 => ?_)
                · skip
                  have ic26 := i_eq c26
                  have : (0 : Int32).toInt = 0 := (by decide)
                  refine ok_bind (k_X7_commonDivisor v hI_v (((r17 - r23) * 10) + (r23 * a3)) 1 (by have : (1 : Int32).toInt = 1 := (by decide); omega)) (fun r28 hr28 => ?_)
                  clear hr28
                  refine ok_bind (k_X7_lowest v hI_v (((r17 - r23) * 10) + (r23 * a3)) r28 ) (fun r31 hr31 => ?_)
                  clear hr31
                  refine ok_some ?_
                  show True
                  trivial
                · skip
                  have ic26 := i_ne c26
                  have : (0 : Int32).toInt = 0 := (by decide)
                  refine ok_bind (k_X7_commonDivisor v hI_v (((r17 - r23) * 10) + (r23 * a3)) 1 (by have : (1 : Int32).toInt = 1 := (by decide); omega)) (fun r34 hr34 => ?_)
                  clear hr34
                  refine ok_bind (k_X7_lowest v hI_v 1 r34 ) (fun r37 hr37 => ?_)
                  clear hr37
                  refine ok_some ?_
                  show True
                  trivial
              · skip
                have ic25 := i_ne c25
                have : (0 : Int32).toInt = 0 := (by decide)
                refine ok_ite _ (fun c39 => ?_) (fun c39 => ?_)
                · skip
                  have ic39 := i_eq c39
                  have : (0 : Int32).toInt = 0 := (by decide)
                  refine ok_bind (k_X7_commonDivisor v hI_v (((r17 - r23) * 10) + (r23 * a3)) (r17 * 10) (by have : (10 : Int32).toInt = 10 := (by decide); (first | have := sp_mulcx r17 (10 : Int32) 10 (by decide) (by omega) | obtain ⟨k1, hk1⟩ := sp_mulc r17 (10 : Int32) 10 (by decide)); omega)) (fun r41 hr41 => ?_)
                  clear hr41
                  refine ok_bind (k_X7_lowest v hI_v (((r17 - r23) * 10) + (r23 * a3)) r41 ) (fun r44 hr44 => ?_)
                  clear hr44
                  refine ok_some ?_
                  show True
                  trivial
                · skip
                  have ic39 := i_ne c39
                  have : (0 : Int32).toInt = 0 := (by decide)
                  refine ok_bind (k_X7_commonDivisor v hI_v (((r17 - r23) * 10) + (r23 * a3)) (r17 * 10) (by have : (10 : Int32).toInt = 10 := (by decide); (first | have := sp_mulcx r17 (10 : Int32) 10 (by decide) (by omega) | obtain ⟨k2, hk2⟩ := sp_mulc r17 (10 : Int32) 10 (by decide)); omega)) (fun r47 hr47 => ?_)
                  clear hr47
                  refine ok_bind (k_X7_lowest v hI_v (r17 * 10) r47 ) (fun r50 hr50 => ?_)
                  clear hr50
                  refine ok_some ?_
                  show True
                  trivial
            · skip
              have ic12 := i_nle c12
              have : (1 : Int32).toInt = 1 := (by decide)
              refine ok_some ?_
              show True
              have : (-1000001 : Int32).toInt = -1000001 := (by decide)
              trivial
theorem sp_d64 (x4 : Int64) (h0 : 0 ≤ x4.toInt) (h1 : x4.toInt ≤ 2147483646) : 0 ≤ ((x4 * 16807) - (x4 * 16807) / 2147483647 * 2147483647).toInt ∧ ((x4 * 16807) - (x4 * 16807) / 2147483647 * 2147483647).toInt ≤ 2147483646 ∧ ((x4 * 16807) - (x4 * 16807) / 2147483647 * 2147483647).toInt = (x4.toInt * 16807) % 2147483647 ∧ ((x4 * 16807) - (x4 * 16807) / 2147483647 * 2147483647).toInt32.toInt = (x4.toInt * 16807) % 2147483647 := by
  have b64 : ∀ x : Int, -9223372036854775808 ≤ x → x < 9223372036854775808 → x.bmod (2 ^ 64) = x := by
    intro x q1 q2
    unfold Int.bmod
    simp only []
    split <;> omega
  have c1 : (16807 : Int64).toInt = 16807 := by decide
  have c2 : (2147483647 : Int64).toInt = 2147483647 := by decide
  have e1 : (x4 * 16807).toInt = x4.toInt * 16807 := by rw [Int64.toInt_mul, c1]; exact b64 _ (by omega) (by omega)
  have e2 : (x4 * 16807 / 2147483647).toInt = x4.toInt * 16807 / 2147483647 := by
    rw [Int64.toInt_div, e1, c2, Int.tdiv_eq_ediv_of_nonneg (by omega)]; exact b64 _ (by omega) (by omega)
  have e3 : (x4 * 16807 / 2147483647 * 2147483647).toInt = x4.toInt * 16807 / 2147483647 * 2147483647 := by
    rw [Int64.toInt_mul, e2, c2]; exact b64 _ (by omega) (by omega)
  have e4 : ((x4 * 16807) - (x4 * 16807) / 2147483647 * 2147483647).toInt = (x4.toInt * 16807) % 2147483647 := by
    rw [Int64.toInt_sub, e1, e3, b64 _ (by omega) (by omega)]; omega
  have e5 : ((x4 * 16807) - (x4 * 16807) / 2147483647 * 2147483647).toInt32.toInt = (x4.toInt * 16807) % 2147483647 := by
    rw [Int64.toInt_toInt32, e4]
    unfold Int.bmod
    simp only []
    split <;> omega
  exact ⟨by omega, by omega, e4, e5⟩
set_option maxHeartbeats 4000000 in
theorem k_X7_drawn (v : Mm) (hI_v : PW rgX v) (a1 : Int32) (a2 : Int32) (a3 : Int32) : ok (g_X7_drawn v a1 a2 a3) (fun z => True) := by
  have e0 : (0 : Int32).toInt = 0 := by decide
  have e1 : (1 : Int32).toInt = 1 := by decide
  have e6 : (6 : Int32).toInt = 6 := by decide
  have e60 : (60 : Int32).toInt = 60 := by decide
  have em : (999999 : Int32).toInt = 999999 := by decide
  have hw : (0 : Int) ≤ (v 6 0 6).toInt ∧ (v 6 0 6).toInt ≤ (6 : Int) := hI_v 6 0 6
  have loop : ∀ (n : Nat) (x4 : Int64) (x6 x7 x8 : Int32), 0 ≤ x4.toInt → x4.toInt ≤ 2147483646 → 0 ≤ x8.toInt → a1.toInt ≤ 60 → 60 < x8.toInt + (n : Int) → x8.toInt ≤ 60 → ok (g_X7_drawn_L57 v a1 a2 a3 n x4 x6 x7 x8) (fun z => True) := by
    intro n
    induction n with
    | zero => intro x4 x6 x7 x8 h1 h2 h3 h4 h5 h6; exfalso; omega
    | succ n ih =>
      intro x4 x6 x7 x8 h1 h2 h3 h4 h5 h6
      show ok (b_X7_drawn_L57 (g_X7_drawn_L57 v a1 a2 a3 n) v a1 a2 a3 x4 x6 x7 x8) _
      unfold b_X7_drawn_L57
      refine ok_ite _ (fun c1 => ?_) (fun c1 => ?_)
      · exact ok_ite _ (fun _ => ok_some trivial) (fun _ => ok_some trivial)
      · have h7 := i_nle c1
        obtain ⟨k, hk⟩ := sp_add x8 1
        have h8 := sp_d64 x4 h1 h2
        generalize (x4 * 16807) - (x4 * 16807) / 2147483647 * 2147483647 = y at h8 ⊢
        have h9 : 0 ≤ y.toInt32.toInt := by omega
        have h10 := sp_rem (a := y.toInt32) (b := 6) h9 (by omega)
        refine ok_bind (k_X7_rest v hI_v y.toInt32 (v 6 0 6) h9 hw.1) (fun r14 h14 => ?_)
        refine ok_bind (k_X2_catches v hI_v 0 r14 _ x8 (by omega) (by omega) (by omega)) (fun r17 h17 => ?_)
        refine ok_ite _ (fun c2 => ?_) (fun c2 => ?_)
        · exact ok_let (fun x20 _ => ih _ _ _ _ (by omega) (by omega) (by omega) h4 (by omega) (by omega))
        · exact ih _ _ _ _ (by omega) (by omega) (by omega) h4 (by omega) (by omega)
  unfold g_X7_drawn
  refine ok_bind (k_X7_noGate v hI_v) (fun r2 h2 => ?_)
  refine ok_ite _ (fun c1 => ?_) (fun c1 => ok_some trivial)
  refine ok_ite _ (fun c2 => ok_some trivial) (fun c2 => ?_)
  refine ok_ite _ (fun c3 => ok_some trivial) (fun c3 => ?_)
  refine ok_ite _ (fun c4 => ok_some trivial) (fun c4 => ?_)
  refine ok_ite _ (fun c5 => ok_some trivial) (fun c5 => ?_)
  refine ok_ite _ (fun c6 => ok_some trivial) (fun c6 => ?_)
  refine ok_ite _ (fun c7 => ?_) (fun c7 => ok_some trivial)
  have i3 := i_nlt c3
  have i4 := i_nlt c4
  have i5 := i_nlt c5
  have e7 : a2.toInt64.toInt = a2.toInt := Int32.toInt_toInt64 a2
  exact loop 2000 _ _ _ _ (by omega) (by omega) (by omega) (by omega) (by omega) (by omega)
set_option maxHeartbeats 4000000 in
theorem k_X7_image (v : Mm) (hI_v : PW rgX v) (a1 : Int32) : ok (g_X7_image v a1) (fun z => PW rgX z.2) := by
  unfold g_X7_image
  refine ok_ite _ (fun c1 => ?_) (fun c1 => ?_)
  · skip
    have ic1 := i_lt c1
    have : (0 : Int32).toInt = 0 := (by decide)
    refine ok_some ?_
    show PW rgX v
    have : (-1000001 : Int32).toInt = -1000001 := (by decide)
    exact hI_v
  · skip
    have ic1 := i_nlt c1
    have : (0 : Int32).toInt = 0 := (by decide)
    refine ok_ite _ (fun c2 => ?_) (fun c2 => ?_)
    · skip
      have ic2 := i_lt c2
      have : (2 : Int32).toInt = 2 := (by decide)
      refine ok_bind (k_X7_noGate v hI_v  ) (fun r4 hr4 => ?_)
      replace hr4 : (0 : Int) ≤ Int32.toInt r4 ∧ Int32.toInt r4 ≤ (1 : Int) := hr4
      obtain ⟨hr4_lo, hr4_hi⟩ := hr4
      refine ok_ite _ (fun c6 => ?_) (fun c6 => ?_)
      · skip
        have ic6 := i_eq c6
        have : (0 : Int32).toInt = 0 := (by decide)
        refine ok_grd _ ?_ ?_
        · skip
          exact gr (by omega) (by omega)
        refine ok_bind (k_X2_become v hI_v (2 + (Int32.toNatClampNeg a1)) 0 ) (fun v10 hr9 => ?_)
        replace hr9 : PW rgX v10 := hr9
        have hI_v10 := hr9
        clear hr9
        refine ok_some ?_
        show PW rgX v10
        have : (1 : Int32).toInt = 1 := (by decide)
        exact hI_v10
      · skip
        have ic6 : Int32.toInt r4 = 1 := one_of hr4_lo hr4_hi c6
        have : (0 : Int32).toInt = 0 := (by decide)
        refine ok_some ?_
        show PW rgX v
        have : (-1000002 : Int32).toInt = -1000002 := (by decide)
        exact hI_v
    · skip
      have ic2 := i_nlt c2
      have : (2 : Int32).toInt = 2 := (by decide)
      refine ok_some ?_
      show PW rgX v
      have : (-1000001 : Int32).toInt = -1000001 := (by decide)
      exact hI_v
set_option maxHeartbeats 4000000 in
theorem k_X7_restore (v : Mm) (hI_v : PW rgX v) (a1 : Int32) : ok (g_X7_restore v a1) (fun z => PW rgX z.2) := by
  unfold g_X7_restore
  refine ok_ite _ (fun c1 => ?_) (fun c1 => ?_)
  · skip
    have ic1 := i_lt c1
    have : (0 : Int32).toInt = 0 := (by decide)
    refine ok_some ?_
    show PW rgX v
    have : (-1000001 : Int32).toInt = -1000001 := (by decide)
    exact hI_v
  · skip
    have ic1 := i_nlt c1
    have : (0 : Int32).toInt = 0 := (by decide)
    refine ok_ite _ (fun c2 => ?_) (fun c2 => ?_)
    · skip
      have ic2 := i_lt c2
      have : (2 : Int32).toInt = 2 := (by decide)
      refine ok_grd _ ?_ ?_
      · skip
        exact gr (by omega) (by omega)
      refine ok_ite _ (fun c4 => ?_) (fun c4 => ?_)
      · skip
        have ic4 := i_eq c4
        have : (0 : Int) ≤ (v 6 (2 + (Int32.toNatClampNeg a1)) 6).toInt ∧ (v 6 (2 + (Int32.toNatClampNeg a1)) 6).toInt ≤ (6 : Int) := hI_v 6 (2 + (Int32.toNatClampNeg a1)) 6
        have : (0 : Int32).toInt = 0 := (by decide)
        refine ok_some ?_
        show PW rgX v
        have : (-1000002 : Int32).toInt = -1000002 := (by decide)
        exact hI_v
      · skip
        have ic4 := i_ne c4
        have : (0 : Int) ≤ (v 6 (2 + (Int32.toNatClampNeg a1)) 6).toInt ∧ (v 6 (2 + (Int32.toNatClampNeg a1)) 6).toInt ≤ (6 : Int) := hI_v 6 (2 + (Int32.toNatClampNeg a1)) 6
        have : (0 : Int32).toInt = 0 := (by decide)
        refine ok_grd _ ?_ ?_
        · skip
          exact gr (by omega) (by omega)
        refine ok_bind (k_X2_become v hI_v 0 (2 + (Int32.toNatClampNeg a1)) ) (fun v8 hr7 => ?_)
        replace hr7 : PW rgX v8 := hr7
        have hI_v8 := hr7
        clear hr7
        refine ok_bind (k_X0_forget v8 hI_v8  ) (fun v11 hr10 => ?_)
        replace hr10 : PW rgX v11 := hr10
        have hI_v11 := hr10
        clear hr10
        refine ok_some ?_
        show PW rgX v11
        have : (1 : Int32).toInt = 1 := (by decide)
        exact hI_v11
    · skip
      have ic2 := i_nlt c2
      have : (2 : Int32).toInt = 2 := (by decide)
      refine ok_some ?_
      show PW rgX v
      have : (-1000001 : Int32).toInt = -1000001 := (by decide)
      exact hI_v
set_option maxHeartbeats 4000000 in
theorem k_X7_kind (v : Mm) (hI_v : PW rgX v) (a1 : Int32) : ok (g_X7_kind v a1) (fun z => True) := by
  unfold g_X7_kind
  refine ok_bind (k_X7_isGuard v hI_v a1 ) (fun r2 hr2 => ?_)
  replace hr2 : (0 : Int) ≤ Int32.toInt r2 ∧ Int32.toInt r2 ≤ (1 : Int) ∧ ((Int32.toInt r2 = 0 ∨ (0 ≤ Int32.toInt a1 ∧ Int32.toInt a1 ≤ 3))) := hr2
  obtain ⟨hr2_lo, hr2_hi, hr2_p0⟩ := hr2
  refine ok_ite _ (fun c4 => ?_) (fun c4 => ?_)
  · skip
    have ic4 := i_eq c4
    try clear hr2_p0
    have : (0 : Int32).toInt = 0 := (by decide)
    refine ok_some ?_
    show True
    have : (-1000001 : Int32).toInt = -1000001 := (by decide)
    trivial
  · skip
    have ic4 : Int32.toInt r2 = 1 := one_of hr2_lo hr2_hi c4
    try replace hr2_p0 : (0 ≤ Int32.toInt a1 ∧ Int32.toInt a1 ≤ 3) := orr hr2_p0 ic4
    have : (0 : Int32).toInt = 0 := (by decide)
    refine ok_grd _ ?_ ?_
    · skip
      exact gr (by omega) (by omega)
    refine ok_some ?_
    show True
    trivial
set_option maxHeartbeats 4000000 in
theorem k_X7_as (v : Mm) (hI_v : PW rgX v) (a1 : Int32) (a2 : Int32) : ok (g_X7_as v a1 a2) (fun z => PW rgX z.2) := by
  unfold g_X7_as
  refine ok_bind (k_X7_isGuard v hI_v a1 ) (fun r2 hr2 => ?_)
  replace hr2 : (0 : Int) ≤ Int32.toInt r2 ∧ Int32.toInt r2 ≤ (1 : Int) ∧ ((Int32.toInt r2 = 0 ∨ (0 ≤ Int32.toInt a1 ∧ Int32.toInt a1 ≤ 3))) := hr2
  obtain ⟨hr2_lo, hr2_hi, hr2_p0⟩ := hr2
  refine ok_ite _ (fun c4 => ?_) (fun c4 => ?_)
  · skip
    have ic4 := i_eq c4
    try clear hr2_p0
    have : (0 : Int32).toInt = 0 := (by decide)
    refine ok_some ?_
    show PW rgX v
    have : (-1000001 : Int32).toInt = -1000001 := (by decide)
    exact hI_v
  · skip
    have ic4 : Int32.toInt r2 = 1 := one_of hr2_lo hr2_hi c4
    try replace hr2_p0 : (0 ≤ Int32.toInt a1 ∧ Int32.toInt a1 ≤ 3) := orr hr2_p0 ic4
    have : (0 : Int32).toInt = 0 := (by decide)
    refine ok_ite _ (fun c5 => ?_) (fun c5 => ?_)
    · skip
      have ic5 := i_lt c5
      have : (0 : Int32).toInt = 0 := (by decide)
      refine ok_some ?_
      show PW rgX v
      have : (-1000001 : Int32).toInt = -1000001 := (by decide)
      exact hI_v
    · skip
      have ic5 := i_nlt c5
      have : (0 : Int32).toInt = 0 := (by decide)
      refine ok_ite _ (fun c6 => ?_) (fun c6 => ?_)
      · skip
        have ic6 := i_le c6
        have : (5 : Int32).toInt = 5 := (by decide)
        refine ok_grd _ ?_ ?_
        · skip
          exact gr (by omega) (by omega)
        refine ok_bind (k_X1_isA v hI_v (v 8 0 (Int32.toNatClampNeg a1)) a2 ) (fun r9 hr9 => ?_)
        replace hr9 : (0 : Int) ≤ Int32.toInt r9 ∧ Int32.toInt r9 ≤ (1 : Int) := hr9
        obtain ⟨hr9_lo, hr9_hi⟩ := hr9
        refine ok_ite _ (fun c11 => ?_) (fun c11 => ?_)
        · skip
          have ic11 := i_eq c11
          have : (0 : Int32).toInt = 0 := (by decide)
          refine ok_kb2 (k_X7_found v hI_v 3 ) (fun r13 v14 hr13 => ?_)
          replace hr13 : PW rgX v14 := hr13
          have hI_v14 := hr13
          clear hr13
          refine ok_some ?_
          show PW rgX v14
          exact hI_v14
        · skip
          have ic11 : Int32.toInt r9 = 1 := one_of hr9_lo hr9_hi c11
          have : (0 : Int32).toInt = 0 := (by decide)
          refine ok_kb2 (k_X7_unfound v hI_v a1 ) (fun r16 v17 hr16 => ?_)
          replace hr16 : PW rgX v17 := hr16
          have hI_v17 := hr16
          clear hr16
          refine ok_some ?_
          show PW rgX v17
          exact hI_v17
      · skip
        have ic6 := i_nle c6
        have : (5 : Int32).toInt = 5 := (by decide)
        refine ok_some ?_
        show PW rgX v
        have : (-1000001 : Int32).toInt = -1000001 := (by decide)
        exact hI_v
set_option maxHeartbeats 4000000 in
theorem k_X7_ask (v : Mm) (hI_v : PW rgX v) (a1 : Int32) (a2 : Int32) : ok (g_X7_ask v a1 a2) (fun z => PW rgX z.2) := by
  unfold g_X7_ask
  refine ok_bind (k_X7_isGuard v hI_v a1 ) (fun r2 hr2 => ?_)
  replace hr2 : (0 : Int) ≤ Int32.toInt r2 ∧ Int32.toInt r2 ≤ (1 : Int) ∧ ((Int32.toInt r2 = 0 ∨ (0 ≤ Int32.toInt a1 ∧ Int32.toInt a1 ≤ 3))) := hr2
  obtain ⟨hr2_lo, hr2_hi, hr2_p0⟩ := hr2
  refine ok_ite _ (fun c4 => ?_) (fun c4 => ?_)
  · skip
    have ic4 := i_eq c4
    try clear hr2_p0
    have : (0 : Int32).toInt = 0 := (by decide)
    refine ok_some ?_
    show PW rgX v
    have : (-1000001 : Int32).toInt = -1000001 := (by decide)
    exact hI_v
  · skip
    have ic4 : Int32.toInt r2 = 1 := one_of hr2_lo hr2_hi c4
    try replace hr2_p0 : (0 ≤ Int32.toInt a1 ∧ Int32.toInt a1 ≤ 3) := orr hr2_p0 ic4
    have : (0 : Int32).toInt = 0 := (by decide)
    refine ok_ite _ (fun c5 => ?_) (fun c5 => ?_)
    · skip
      have ic5 := i_lt c5
      have : (0 : Int32).toInt = 0 := (by decide)
      refine ok_some ?_
      show PW rgX v
      have : (-1000001 : Int32).toInt = -1000001 := (by decide)
      exact hI_v
    · skip
      have ic5 := i_nlt c5
      have : (0 : Int32).toInt = 0 := (by decide)
      refine ok_ite _ (fun c6 => ?_) (fun c6 => ?_)
      · skip
        have ic6 := i_le c6
        have : (1 : Int32).toInt = 1 := (by decide)
        refine ok_grd _ ?_ ?_
        · skip
          exact gr (by omega) (by omega)
        refine ok_grd _ ?_ ?_
        · skip
          exact gr (by omega) (by omega)
        refine ok_grd _ ?_ ?_
        · skip
          exact gr (by omega) (by omega)
        refine ok_bind (k_X1_turnTo v hI_v a1 (v 8 0 (Int32.toNatClampNeg a1)) (v 9 0 (Int32.toNatClampNeg a1)) (v 11 0 (Int32.toNatClampNeg a1)) ) (fun v12 hr11 => ?_)
        replace hr11 : PW rgX v12 := hr11
        have hI_v12 := hr11
        clear hr11
        refine ok_kb2 (k_X1_answer v12 hI_v12 a2 ) (fun r14 v15 hr14 => ?_)
        replace hr14 : PW rgX v15 := hr14
        have hI_v15 := hr14
        clear hr14
        refine ok_some ?_
        show PW rgX v15
        exact hI_v15
      · skip
        have ic6 := i_nle c6
        have : (1 : Int32).toInt = 1 := (by decide)
        refine ok_some ?_
        show PW rgX v
        have : (-1000001 : Int32).toInt = -1000001 := (by decide)
        exact hI_v
set_option maxHeartbeats 4000000 in
theorem k_X7_trace (v : Mm) (hI_v : PW rgX v) (a1 : Int32) : ok (g_X7_trace v a1) (fun z => True) := by
  unfold g_X7_trace
  refine ok_ite _ (fun c1 => ?_) (fun c1 => ?_)
  · skip
    have ic1 := i_lt c1
    have : (0 : Int32).toInt = 0 := (by decide)
    refine ok_some ?_
    show True
    have : (-1000000 : Int32).toInt = -1000000 := (by decide)
    trivial
  · skip
    have ic1 := i_nlt c1
    have : (0 : Int32).toInt = 0 := (by decide)
    refine ok_ite _ (fun c2 => ?_) (fun c2 => ?_)
    · skip
      have ic2 := i_lt c2
      have : (0 : Int) ≤ (v 21 0 1).toInt ∧ (v 21 0 1).toInt ≤ (16 : Int) := hI_v 21 0 1
      refine ok_grd _ ?_ ?_
      · skip
        exact gr (by omega) (by omega)
      refine ok_some ?_
      show True
      trivial
    · skip
      have ic2 := i_nlt c2
      have : (0 : Int) ≤ (v 21 0 1).toInt ∧ (v 21 0 1).toInt ≤ (16 : Int) := hI_v 21 0 1
      refine ok_some ?_
      show True
      have : (-1000000 : Int32).toInt = -1000000 := (by decide)
      trivial
set_option maxHeartbeats 4000000 in
theorem k_X7_rowsThere (v : Mm) (hI_v : PW rgX v)  : ok (g_X7_rowsThere v ) (fun z => True) := by
  have loop4 : ∀ (n4 : Nat) (x1_4 : Int32) (x2_4 : Int32), ((0 : Int) ≤ Int32.toInt x2_4 ∧ Int32.toInt x2_4 ≤ (8 : Int)) → (8 - Int32.toInt x2_4 < (n4 : Int)) → ok (g_X7_rowsThere_L4  v n4 x1_4 x2_4) (fun z => True) := by
    intro n4
    induction n4 with
    | zero =>
      intro x1_4 x2_4 hv0_4 hm4
      exfalso
      omega
    | succ n4 ih4 =>
      intro x1_4 x2_4 hv0_4 hm4
      show ok (b_X7_rowsThere_L4  (g_X7_rowsThere_L4  v n4) v x1_4 x2_4) _
      unfold b_X7_rowsThere_L4
      refine ok_ite _ (fun c1 => ?_) (fun c1 => ?_)
      · skip
        have ic1 := i_le c1
        have : (8 : Int32).toInt = 8 := (by decide)
        refine ok_some ?_
        show True
        trivial
      · skip
        have ic1 := i_nle c1
        have : (8 : Int32).toInt = 8 := (by decide)
        refine ok_grd _ ?_ ?_
        · skip
          exact gr (by omega) (by omega)
        refine ok_ite _ (fun c3 => ?_) (fun c3 => ?_)
        · skip
          have ic3 := i_eq c3
          have : (-1 : Int32).toInt = -1 := (by decide)
          have : (1 : Int32).toInt = 1 := (by decide)
          have := i_bd x2_4
          (first | have := sp_addx x2_4 (1 : Int32) (by omega) | obtain ⟨k1, hk1⟩ := sp_add x2_4 (1 : Int32))
          exact ih4 x1_4 (x2_4 + 1) (by omega) (by omega)
        · skip
          have ic3 := i_ne c3
          have : (-1 : Int32).toInt = -1 := (by decide)
          have : (1 : Int32).toInt = 1 := (by decide)
          have := i_bd x1_4
          (first | have := sp_addx x1_4 (1 : Int32) (by omega) | obtain ⟨k2, hk2⟩ := sp_add x1_4 (1 : Int32))
          have := i_bd x2_4
          (first | have := sp_addx x2_4 (1 : Int32) (by omega) | obtain ⟨k3, hk3⟩ := sp_add x2_4 (1 : Int32))
          exact ih4 (x1_4 + 1) (x2_4 + 1) (by omega) (by omega)
  unfold g_X7_rowsThere
  have : (0 : Int32).toInt = 0 := (by decide)
  exact loop4 2000 0 0 (by omega) (by omega)
set_option maxHeartbeats 4000000 in
theorem k_X7_count (v : Mm) (hI_v : PW rgX v) (a1 : Int32) : ok (g_X7_count v a1) (fun z => True) := by
  unfold g_X7_count
  refine ok_ite _ (fun c1 => ?_) (fun c1 => ?_)
  · skip
    have ic1 := i_eq c1
    have : (0 : Int32).toInt = 0 := (by decide)
    refine ok_bind (k_X7_rowsThere v hI_v  ) (fun r3 hr3 => ?_)
    clear hr3
    refine ok_some ?_
    show True
    trivial
  · skip
    have ic1 := i_ne c1
    have : (0 : Int32).toInt = 0 := (by decide)
    refine ok_ite _ (fun c5 => ?_) (fun c5 => ?_)
    · skip
      have ic5 := i_eq c5
      have : (1 : Int32).toInt = 1 := (by decide)
      refine ok_some ?_
      show True
      have : (0 : Int) ≤ (v 6 0 6).toInt ∧ (v 6 0 6).toInt ≤ (6 : Int) := hI_v 6 0 6
      trivial
    · skip
      have ic5 := i_ne c5
      have : (1 : Int32).toInt = 1 := (by decide)
      refine ok_ite _ (fun c6 => ?_) (fun c6 => ?_)
      · skip
        have ic6 := i_eq c6
        have : (2 : Int32).toInt = 2 := (by decide)
        refine ok_some ?_
        show True
        have : (0 : Int) ≤ (v 6 0 7).toInt ∧ (v 6 0 7).toInt ≤ (4 : Int) := hI_v 6 0 7
        trivial
      · skip
        have ic6 := i_ne c6
        have : (2 : Int32).toInt = 2 := (by decide)
        refine ok_ite _ (fun c7 => ?_) (fun c7 => ?_)
        · skip
          have ic7 := i_eq c7
          have : (3 : Int32).toInt = 3 := (by decide)
          refine ok_some ?_
          show True
          have : (0 : Int) ≤ (v 10 0 4).toInt ∧ (v 10 0 4).toInt ≤ (999 : Int) := hI_v 10 0 4
          trivial
        · skip
          have ic7 := i_ne c7
          have : (3 : Int32).toInt = 3 := (by decide)
          refine ok_ite _ (fun c8 => ?_) (fun c8 => ?_)
          · skip
            have ic8 := i_eq c8
            have : (4 : Int32).toInt = 4 := (by decide)
            refine ok_some ?_
            show True
            have : (0 : Int) ≤ (v 10 0 7).toInt ∧ (v 10 0 7).toInt ≤ (9 : Int) := hI_v 10 0 7
            trivial
          · skip
            have ic8 := i_ne c8
            have : (4 : Int32).toInt = 4 := (by decide)
            refine ok_ite _ (fun c9 => ?_) (fun c9 => ?_)
            · skip
              have ic9 := i_eq c9
              have : (5 : Int32).toInt = 5 := (by decide)
              refine ok_some ?_
              show True
              have : (0 : Int) ≤ (v 10 0 6).toInt ∧ (v 10 0 6).toInt ≤ (15 : Int) := hI_v 10 0 6
              trivial
            · skip
              have ic9 := i_ne c9
              have : (5 : Int32).toInt = 5 := (by decide)
              refine ok_ite _ (fun c10 => ?_) (fun c10 => ?_)
              · skip
                have ic10 := i_eq c10
                have : (6 : Int32).toInt = 6 := (by decide)
                refine ok_some ?_
                show True
                have : (0 : Int) ≤ (v 15 0 2).toInt ∧ (v 15 0 2).toInt ≤ (24 : Int) := hI_v 15 0 2
                trivial
              · skip
                have ic10 := i_ne c10
                have : (6 : Int32).toInt = 6 := (by decide)
                refine ok_ite _ (fun c11 => ?_) (fun c11 => ?_)
                · skip
                  have ic11 := i_eq c11
                  have : (7 : Int32).toInt = 7 := (by decide)
                  refine ok_some ?_
                  show True
                  have : (0 : Int) ≤ (v 4 0 2).toInt ∧ (v 4 0 2).toInt ≤ (100 : Int) := hI_v 4 0 2
                  trivial
                · skip
                  have ic11 := i_ne c11
                  have : (7 : Int32).toInt = 7 := (by decide)
                  refine ok_ite _ (fun c12 => ?_) (fun c12 => ?_)
                  · skip
                    have ic12 := i_eq c12
                    have : (8 : Int32).toInt = 8 := (by decide)
                    refine ok_some ?_
                    show True
                    have : (0 : Int) ≤ (v 10 0 5).toInt ∧ (v 10 0 5).toInt ≤ (9 : Int) := hI_v 10 0 5
                    trivial
                  · skip
                    have ic12 := i_ne c12
                    have : (8 : Int32).toInt = 8 := (by decide)
                    refine ok_ite _ (fun c13 => ?_) (fun c13 => ?_)
                    · skip
                      have ic13 := i_eq c13
                      have : (9 : Int32).toInt = 9 := (by decide)
                      refine ok_bind (k_X4_tookInAll v hI_v 0 ) (fun r15 hr15 => ?_)
                      clear hr15
                      refine ok_some ?_
                      show True
                      trivial
                    · skip
                      have ic13 := i_ne c13
                      have : (9 : Int32).toInt = 9 := (by decide)
                      refine ok_some ?_
                      show True
                      have : (-1000001 : Int32).toInt = -1000001 := (by decide)
                      trivial
set_option maxHeartbeats 4000000 in
theorem k_X7_status (v : Mm) (hI_v : PW rgX v)  : ok (g_X7_status v ) (fun z => True) := by
  unfold g_X7_status
  refine ok_some ?_
  show True
  trivial
