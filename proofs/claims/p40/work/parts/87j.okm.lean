set_option maxHeartbeats 4000000 in
theorem k_X8_march (v : Mm) (hI_v : IM v) (a1 : Int32) (a2 : Int32) (a3 : Int32) (a4 : Int32) : ok (g_X8_march v a1 a2 a3 a4) (fun z => IM z.2) := by
  have : ((v 36 0 3).toInt = 0 ∧ (v 36 0 4).toInt = 0) ∨ (0 < (v 36 0 3).toInt ∧ 0 < (v 36 0 4).toInt) := hI_v.2.1
  have loop82 : ∀ (n82 : Nat) (w82 : Mm) (x5_82 : Int32) (x6_82 : Int32) (x7_82 : Int32), (IM w82) → ((-1 : Int) ≤ Int32.toInt x5_82 ∧ Int32.toInt x5_82 ≤ (6 : Int)) → ((0 : Int) ≤ Int32.toInt x7_82 ∧ Int32.toInt x7_82 ≤ (6 : Int)) → (0 ≤ Int32.toInt a1 ∧ Int32.toInt a1 ≤ 7) → (0 ≤ Int32.toInt a2) → (Int32.toInt a2 + Int32.toInt a3 ≤ 40) → (Int32.toInt a3 ≤ 6) → (0 < Int32.toInt (w82 36 0 3)) → (6 - Int32.toInt x7_82 < (n82 : Int)) → ok (g_X8_march_L82  a1 a2 a3 a4 n82 w82 x5_82 x6_82 x7_82) (fun z => IM z.2) := by
    intro n82
    induction n82 with
    | zero =>
      intro w82 x5_82 x6_82 x7_82 hI_w82 hv0_82 hv1_82 hv2_82 hv3_82 hv4_82 hv5_82 hv6_82 hm82
      exfalso
      have : (0 : Int) ≤ (w82 36 0 3).toInt ∧ (w82 36 0 3).toInt ≤ (6 : Int) := hI_w82.1 36 0 3
      omega
    | succ n82 ih82 =>
      intro w82 x5_82 x6_82 x7_82 hI_w82 hv0_82 hv1_82 hv2_82 hv3_82 hv4_82 hv5_82 hv6_82 hm82
      show ok (b_X8_march_L82  (g_X8_march_L82  a1 a2 a3 a4 n82) a1 a2 a3 a4 w82 x5_82 x6_82 x7_82) _
      unfold b_X8_march_L82
      have : ((w82 36 0 3).toInt = 0 ∧ (w82 36 0 4).toInt = 0) ∨ (0 < (w82 36 0 3).toInt ∧ 0 < (w82 36 0 4).toInt) := hI_w82.2.1
      have : (0 : Int) ≤ (w82 36 0 3).toInt ∧ (w82 36 0 3).toInt ≤ (6 : Int) := hI_w82.1 36 0 3
      have loop114 : ∀ (n114 : Nat) (w114 : Mm) (x5_114 : Int32) (x6_114 : Int32) (x7_114 : Int32) (x8_114 : Int32), (IM w114) → ((0 : Int) ≤ Int32.toInt x5_114 ∧ Int32.toInt x5_114 ≤ (6 : Int)) → ((0 : Int) ≤ Int32.toInt x7_114 ∧ Int32.toInt x7_114 ≤ (5 : Int)) → (0 ≤ Int32.toInt a1 ∧ Int32.toInt a1 ≤ 7) → (0 ≤ Int32.toInt a2) → (Int32.toInt a2 + Int32.toInt a3 ≤ 40) → (Int32.toInt a3 ≤ 6) → (0 < Int32.toInt (w114 36 0 3)) → (6 - Int32.toInt x7_114 < (n82 : Int) + 1) → (6 - Int32.toInt x5_114 < (n114 : Int)) → ok (g_X8_march_L114 (g_X8_march_L82  a1 a2 a3 a4 n82) a1 a2 a3 a4 n114 w114 x5_114 x6_114 x7_114 x8_114) (fun z => IM z.2) := by
        intro n114
        induction n114 with
        | zero =>
          intro w114 x5_114 x6_114 x7_114 x8_114 hI_w114 hv0_114 hv1_114 hv2_114 hv3_114 hv4_114 hv5_114 hv6_114 hv7_114 hm114
          exfalso
          have : (0 : Int) ≤ (w114 36 0 3).toInt ∧ (w114 36 0 3).toInt ≤ (6 : Int) := hI_w114.1 36 0 3
          omega
        | succ n114 ih114 =>
          intro w114 x5_114 x6_114 x7_114 x8_114 hI_w114 hv0_114 hv1_114 hv2_114 hv3_114 hv4_114 hv5_114 hv6_114 hv7_114 hm114
          show ok (b_X8_march_L114 (g_X8_march_L82  a1 a2 a3 a4 n82) (g_X8_march_L114 (g_X8_march_L82  a1 a2 a3 a4 n82) a1 a2 a3 a4 n114) a1 a2 a3 a4 w114 x5_114 x6_114 x7_114 x8_114) _
          unfold b_X8_march_L114
          have : ((w114 36 0 3).toInt = 0 ∧ (w114 36 0 4).toInt = 0) ∨ (0 < (w114 36 0 3).toInt ∧ 0 < (w114 36 0 4).toInt) := hI_w114.2.1
          have : (0 : Int) ≤ (w114 36 0 3).toInt ∧ (w114 36 0 3).toInt ≤ (6 : Int) := hI_w114.1 36 0 3
          refine ok_ite _ (fun c1 => ?_) (fun c1 => ?_)
          · skip
            have ic1 := i_le c1
            have : (6 : Int32).toInt = 6 := (by decide)
            refine ok_ite _ (fun c2 => ?_) (fun c2 => ?_)
            · skip
              have ic2 := i_eq c2
              have : (1 : Int32).toInt = 1 := (by decide)
              have := i_bd x7_114
              (first | have := sp_addx x7_114 (1 : Int32) (by omega) | obtain ⟨k1, hk1⟩ := sp_add x7_114 (1 : Int32))
              exact ih82 w114 x5_114 x5_114 (x7_114 + 1) hI_w114 (by omega) (by omega) (by omega) (by omega) (by omega) (by omega) (by omega) (by omega)
            · skip
              have ic2 := i_ne c2
              refine ok_ite _ (fun c3 => ?_) (fun c3 => ?_)
              · skip
                have ic3 := i_eq c3
                have : (-1 : Int32).toInt = -1 := (by decide)
                have : (1 : Int32).toInt = 1 := (by decide)
                have := i_bd x7_114
                (first | have := sp_addx x7_114 (1 : Int32) (by omega) | obtain ⟨k2, hk2⟩ := sp_add x7_114 (1 : Int32))
                exact ih82 w114 x5_114 x5_114 (x7_114 + 1) hI_w114 (by omega) (by omega) (by omega) (by omega) (by omega) (by omega) (by omega) (by omega)
              · skip
                have ic3 := i_ne c3
                have : (-1 : Int32).toInt = -1 := (by decide)
                have : (1 : Int32).toInt = 1 := (by decide)
                have := i_bd x7_114
                (first | have := sp_addx x7_114 (1 : Int32) (by omega) | obtain ⟨k3, hk3⟩ := sp_add x7_114 (1 : Int32))
                exact ih82 w114 x5_114 x6_114 (x7_114 + 1) hI_w114 (by omega) (by omega) (by omega) (by omega) (by omega) (by omega) (by omega) (by omega)
          · skip
            have ic1 := i_nle c1
            have : (6 : Int32).toInt = 6 := (by decide)
            refine ok_bind (k_X8_isWord w114 hI_w114 x8_114 ) (fun r5 hr5 => ?_)
            replace hr5 : (0 : Int) ≤ Int32.toInt r5 ∧ Int32.toInt r5 ≤ (1 : Int) ∧ ((Int32.toInt r5 = 0 ∨ (0 ≤ Int32.toInt x8_114 ∧ Int32.toInt x8_114 ≤ 5 ∧ 0 < Int32.toInt (w114 36 0 3)))) := hr5
            obtain ⟨hr5_lo, hr5_hi, hr5_p0⟩ := hr5
            have : (0 : Int) ≤ (w114 36 0 3).toInt ∧ (w114 36 0 3).toInt ≤ (6 : Int) := hI_w114.1 36 0 3
            refine ok_ite _ (fun c7 => ?_) (fun c7 => ?_)
            · skip
              have ic7 := i_eq c7
              try clear hr5_p0
              have : (0 : Int32).toInt = 0 := (by decide)
              have : (1 : Int32).toInt = 1 := (by decide)
              have := i_bd x5_114
              (first | have := sp_addx x5_114 (1 : Int32) (by omega) | obtain ⟨k4, hk4⟩ := sp_add x5_114 (1 : Int32))
              exact ih114 w114 (x5_114 + 1) x6_114 x7_114 x8_114 hI_w114 (by omega) (by omega) (by omega) (by omega) (by omega) (by omega) (by omega) (by omega) (by omega)
            · skip
              have ic7 : Int32.toInt r5 = 1 := one_of hr5_lo hr5_hi c7
              try replace hr5_p0 : (0 ≤ Int32.toInt x8_114 ∧ Int32.toInt x8_114 ≤ 5 ∧ 0 < Int32.toInt (w114 36 0 3)) := orr hr5_p0 ic7
              have : (0 : Int32).toInt = 0 := (by decide)
              refine ok_bind (k_X8_isTakenNow w114 hI_w114 x8_114 x5_114 0 (by omega) (by omega) (by have : (0 : Int32).toInt = 0 := (by decide); omega) (by omega) (by omega)) (fun r9 hr9 => ?_)
              replace hr9 : (0 : Int) ≤ Int32.toInt r9 ∧ Int32.toInt r9 ≤ (1 : Int) := hr9
              obtain ⟨hr9_lo, hr9_hi⟩ := hr9
              refine ok_ite _ (fun c11 => ?_) (fun c11 => ?_)
              · skip
                have ic11 := i_eq c11
                have : (0 : Int32).toInt = 0 := (by decide)
                refine ok_ite _ (fun c12 => ?_) (fun c12 => ?_)
                · skip
                  have ic12 := i_eq c12
                  have : (1 : Int32).toInt = 1 := (by decide)
                  have := i_bd x7_114
                  (first | have := sp_addx x7_114 (1 : Int32) (by omega) | obtain ⟨k5, hk5⟩ := sp_add x7_114 (1 : Int32))
                  exact ih82 w114 x5_114 x5_114 (x7_114 + 1) hI_w114 (by omega) (by omega) (by omega) (by omega) (by omega) (by omega) (by omega) (by omega)
                · skip
                  have ic12 := i_ne c12
                  refine ok_ite _ (fun c13 => ?_) (fun c13 => ?_)
                  · skip
                    have ic13 := i_eq c13
                    have : (-1 : Int32).toInt = -1 := (by decide)
                    have : (1 : Int32).toInt = 1 := (by decide)
                    have := i_bd x7_114
                    (first | have := sp_addx x7_114 (1 : Int32) (by omega) | obtain ⟨k6, hk6⟩ := sp_add x7_114 (1 : Int32))
                    exact ih82 w114 x5_114 x5_114 (x7_114 + 1) hI_w114 (by omega) (by omega) (by omega) (by omega) (by omega) (by omega) (by omega) (by omega)
                  · skip
                    have ic13 := i_ne c13
                    have : (-1 : Int32).toInt = -1 := (by decide)
                    have : (1 : Int32).toInt = 1 := (by decide)
                    have := i_bd x7_114
                    (first | have := sp_addx x7_114 (1 : Int32) (by omega) | obtain ⟨k7, hk7⟩ := sp_add x7_114 (1 : Int32))
                    exact ih82 w114 x5_114 x6_114 (x7_114 + 1) hI_w114 (by omega) (by omega) (by omega) (by omega) (by omega) (by omega) (by omega) (by omega)
              · skip
                have ic11 : Int32.toInt r9 = 1 := one_of hr9_lo hr9_hi c11
                have : (0 : Int32).toInt = 0 := (by decide)
                have : (1 : Int32).toInt = 1 := (by decide)
                have := i_bd x5_114
                (first | have := sp_addx x5_114 (1 : Int32) (by omega) | obtain ⟨k8, hk8⟩ := sp_add x5_114 (1 : Int32))
                exact ih114 w114 (x5_114 + 1) x6_114 x7_114 x8_114 hI_w114 (by omega) (by omega) (by omega) (by omega) (by omega) (by omega) (by omega) (by omega) (by omega)
      refine ok_ite _ (fun c14 => ?_) (fun c14 => ?_)
      · skip
        have ic14 := i_le c14
        refine ok_ite _ (fun c15 => ?_) (fun c15 => ?_)
        · skip
          have ic15 := i_le c15
          have : (6 : Int32).toInt = 6 := (by decide)
          refine ok_kb2 (k_X8_well w82 hI_w82 (-1000000) ) (fun r17 v18 hr17 => ?_)
          replace hr17 : IM v18 := hr17
          have hI_v18 := hr17
          clear hr17
          have : ((v18 36 0 3).toInt = 0 ∧ (v18 36 0 4).toInt = 0) ∨ (0 < (v18 36 0 3).toInt ∧ 0 < (v18 36 0 4).toInt) := hI_v18.2.1
          refine ok_some ?_
          show IM v18
          exact hI_v18
        · skip
          have ic15 := i_nle c15
          have : (6 : Int32).toInt = 6 := (by decide)
          refine ok_kb2 (k_X8_well w82 hI_w82 x6_82 ) (fun r20 v21 hr20 => ?_)
          replace hr20 : IM v21 := hr20
          have hI_v21 := hr20
          clear hr20
          have : ((v21 36 0 3).toInt = 0 ∧ (v21 36 0 4).toInt = 0) ∨ (0 < (v21 36 0 3).toInt ∧ 0 < (v21 36 0 4).toInt) := hI_v21.2.1
          refine ok_some ?_
          show IM v21
          exact hI_v21
      · skip
        have ic14 := i_nle c14
        refine ok_ite _ (fun c22 => ?_) (fun c22 => ?_)
        · skip
          have ic22 := i_le c22
          have : (6 : Int32).toInt = 6 := (by decide)
          refine ok_ite _ (fun c23 => ?_) (fun c23 => ?_)
          · skip
            have ic23 := i_le c23
            have : (6 : Int32).toInt = 6 := (by decide)
            refine ok_kb2 (k_X8_well w82 hI_w82 (-1000000) ) (fun r25 v26 hr25 => ?_)
            replace hr25 : IM v26 := hr25
            have hI_v26 := hr25
            clear hr25
            have : ((v26 36 0 3).toInt = 0 ∧ (v26 36 0 4).toInt = 0) ∨ (0 < (v26 36 0 3).toInt ∧ 0 < (v26 36 0 4).toInt) := hI_v26.2.1
            refine ok_some ?_
            show IM v26
            exact hI_v26
          · skip
            have ic23 := i_nle c23
            have : (6 : Int32).toInt = 6 := (by decide)
            refine ok_kb2 (k_X8_well w82 hI_w82 x6_82 ) (fun r28 v29 hr28 => ?_)
            replace hr28 : IM v29 := hr28
            have hI_v29 := hr28
            clear hr28
            have : ((v29 36 0 3).toInt = 0 ∧ (v29 36 0 4).toInt = 0) ∨ (0 < (v29 36 0 3).toInt ∧ 0 < (v29 36 0 4).toInt) := hI_v29.2.1
            refine ok_some ?_
            show IM v29
            exact hI_v29
        · skip
          have ic22 := i_nle c22
          have : (6 : Int32).toInt = 6 := (by decide)
          refine ok_grd _ ?_ ?_
          · skip
            have : (40 : Int32).toInt = 40 := (by decide)
            (first | have := sp_cmulx (40 : Int32) a1 40 (by decide) (by omega) | obtain ⟨k9, hk9⟩ := sp_cmul (40 : Int32) a1 40 (by decide))
            have := i_bd a2
            (first | have := sp_addx ((40 : Int32) * a1) a2 (by omega) | obtain ⟨k10, hk10⟩ := sp_add ((40 : Int32) * a1) a2)
            have := i_bd x7_82
            (first | have := sp_addx (((40 : Int32) * a1) + a2) x7_82 (by omega) | obtain ⟨k11, hk11⟩ := sp_add (((40 : Int32) * a1) + a2) x7_82)
            exact gr (by omega) (by omega)
          refine ok_let (fun x31 ex31 => ?_)
          have := i_eq ex31
          have : (1 : Int32).toInt = 1 := (by decide)
          have := i_bd x5_82
          (first | have := sp_addx x5_82 (1 : Int32) (by omega) | obtain ⟨k12, hk12⟩ := sp_add x5_82 (1 : Int32))
          exact loop114 2000 w82 (x5_82 + 1) x6_82 x7_82 x31 hI_w82 (by omega) (by omega) (by omega) (by omega) (by omega) (by omega) (by omega) (by omega) (by omega)
  unfold g_X8_march
  refine ok_bind (k_X8_isGate v hI_v  ) (fun r33 hr33 => ?_)
  replace hr33 : (0 : Int) ≤ Int32.toInt r33 ∧ Int32.toInt r33 ≤ (1 : Int) ∧ ((Int32.toInt r33 = 0 ∧ Int32.toInt (v 36 0 3) = 0) ∨ 0 < Int32.toInt (v 36 0 3)) := hr33
  obtain ⟨hr33_lo, hr33_hi, hr33_p0⟩ := hr33
  have : (0 : Int) ≤ (v 36 0 3).toInt ∧ (v 36 0 3).toInt ≤ (6 : Int) := hI_v.1 36 0 3
  refine ok_ite _ (fun c35 => ?_) (fun c35 => ?_)
  · skip
    have ic35 := i_eq c35
    have : (0 : Int32).toInt = 0 := (by decide)
    refine ok_some ?_
    show IM v
    have : (-1000002 : Int32).toInt = -1000002 := (by decide)
    exact hI_v
  · skip
    have ic35 : Int32.toInt r33 = 1 := one_of hr33_lo hr33_hi c35
    have : (0 : Int32).toInt = 0 := (by decide)
    refine ok_bind (k_X8_isRow v hI_v a1 ) (fun r37 hr37 => ?_)
    replace hr37 : (0 : Int) ≤ Int32.toInt r37 ∧ Int32.toInt r37 ≤ (1 : Int) ∧ ((Int32.toInt r37 = 0 ∨ (0 ≤ Int32.toInt a1 ∧ Int32.toInt a1 ≤ 7))) := hr37
    obtain ⟨hr37_lo, hr37_hi, hr37_p0⟩ := hr37
    refine ok_ite _ (fun c39 => ?_) (fun c39 => ?_)
    · skip
      have ic39 := i_eq c39
      try clear hr37_p0
      have : (0 : Int32).toInt = 0 := (by decide)
      refine ok_some ?_
      show IM v
      have : (-1000001 : Int32).toInt = -1000001 := (by decide)
      exact hI_v
    · skip
      have ic39 : Int32.toInt r37 = 1 := one_of hr37_lo hr37_hi c39
      try replace hr37_p0 : (0 ≤ Int32.toInt a1 ∧ Int32.toInt a1 ≤ 7) := orr hr37_p0 ic39
      have : (0 : Int32).toInt = 0 := (by decide)
      refine ok_bind (k_X8_in v hI_v a3 1 6 ) (fun r41 hr41 => ?_)
      replace hr41 : (0 : Int) ≤ Int32.toInt r41 ∧ Int32.toInt r41 ≤ (1 : Int) ∧ (Int32.toInt r41 = 0 ∨ (Int32.toInt 1 ≤ Int32.toInt a3 ∧ Int32.toInt a3 ≤ Int32.toInt 6)) := hr41
      obtain ⟨hr41_lo, hr41_hi, hr41_p0⟩ := hr41
      have : (1 : Int32).toInt = 1 := (by decide)
      have : (6 : Int32).toInt = 6 := (by decide)
      refine ok_ite _ (fun c43 => ?_) (fun c43 => ?_)
      · skip
        have ic43 := i_eq c43
        try clear hr41_p0
        have : (0 : Int32).toInt = 0 := (by decide)
        refine ok_some ?_
        show IM v
        have : (-1000001 : Int32).toInt = -1000001 := (by decide)
        exact hI_v
      · skip
        have ic43 : Int32.toInt r41 = 1 := one_of hr41_lo hr41_hi c43
        try replace hr41_p0 : (Int32.toInt 1 ≤ Int32.toInt a3 ∧ Int32.toInt a3 ≤ Int32.toInt 6) := orr hr41_p0 ic43
        have : (0 : Int32).toInt = 0 := (by decide)
        refine ok_bind (k_X8_in v hI_v a4 (-1) (a3 - 1) ) (fun r45 hr45 => ?_)
        replace hr45 : (0 : Int) ≤ Int32.toInt r45 ∧ Int32.toInt r45 ≤ (1 : Int) ∧ (Int32.toInt r45 = 0 ∨ (Int32.toInt (-1) ≤ Int32.toInt a4 ∧ Int32.toInt a4 ≤ Int32.toInt (a3 - 1))) := hr45
        obtain ⟨hr45_lo, hr45_hi, hr45_p0⟩ := hr45
        have : (-1 : Int32).toInt = -1 := (by decide)
        have : (1 : Int32).toInt = 1 := (by decide)
        have := i_bd a3
        (first | have := sp_subx a3 (1 : Int32) (by omega) | obtain ⟨k13, hk13⟩ := sp_sub a3 (1 : Int32))
        refine ok_ite _ (fun c47 => ?_) (fun c47 => ?_)
        · skip
          have ic47 := i_eq c47
          try clear hr45_p0
          have : (0 : Int32).toInt = 0 := (by decide)
          refine ok_some ?_
          show IM v
          have : (-1000001 : Int32).toInt = -1000001 := (by decide)
          exact hI_v
        · skip
          have ic47 : Int32.toInt r45 = 1 := one_of hr45_lo hr45_hi c47
          try replace hr45_p0 : (Int32.toInt (-1) ≤ Int32.toInt a4 ∧ Int32.toInt a4 ≤ Int32.toInt (a3 - 1)) := orr hr45_p0 ic47
          have : (0 : Int32).toInt = 0 := (by decide)
          refine ok_bind (k_X8_isMissing v hI_v a1 (by omega)) (fun r49 hr49 => ?_)
          replace hr49 : (0 : Int) ≤ Int32.toInt r49 ∧ Int32.toInt r49 ≤ (1 : Int) := hr49
          obtain ⟨hr49_lo, hr49_hi⟩ := hr49
          refine ok_ite _ (fun c51 => ?_) (fun c51 => ?_)
          · skip
            have ic51 := i_eq c51
            have : (0 : Int32).toInt = 0 := (by decide)
            refine ok_bind (k_X8_isPart v hI_v a1 a2 a3 (by omega)) (fun r53 hr53 => ?_)
            replace hr53 : (0 : Int) ≤ Int32.toInt r53 ∧ Int32.toInt r53 ≤ (1 : Int) ∧ (Int32.toInt r53 = 0 ∨ (0 ≤ Int32.toInt a2 ∧ 0 ≤ Int32.toInt a3 ∧ Int32.toInt a2 + Int32.toInt a3 ≤ 40)) := hr53
            obtain ⟨hr53_lo, hr53_hi, hr53_p0⟩ := hr53
            refine ok_ite _ (fun c55 => ?_) (fun c55 => ?_)
            · skip
              have ic55 := i_eq c55
              try clear hr53_p0
              have : (0 : Int32).toInt = 0 := (by decide)
              refine ok_kb2 (k_X8_found v hI_v 2 ) (fun r57 v58 hr57 => ?_)
              replace hr57 : IM v58 := hr57
              have hI_v58 := hr57
              clear hr57
              have : ((v58 36 0 3).toInt = 0 ∧ (v58 36 0 4).toInt = 0) ∨ (0 < (v58 36 0 3).toInt ∧ 0 < (v58 36 0 4).toInt) := hI_v58.2.1
              refine ok_some ?_
              show IM v58
              exact hI_v58
            · skip
              have ic55 : Int32.toInt r53 = 1 := one_of hr53_lo hr53_hi c55
              try replace hr53_p0 : (0 ≤ Int32.toInt a2 ∧ 0 ≤ Int32.toInt a3 ∧ Int32.toInt a2 + Int32.toInt a3 ≤ 40) := orr hr53_p0 ic55
              have : (0 : Int32).toInt = 0 := (by decide)
              have : (-1 : Int32).toInt = -1 := (by decide)
              have : (-1000000 : Int32).toInt = -1000000 := (by decide)
              have : (0 : Int32).toInt = 0 := (by decide)
              exact loop82 2000 v (-1) (-1000000) 0 hI_v (by omega) (by omega) (by omega) (by omega) (by omega) (by omega) (by omega) (by omega)
          · skip
            have ic51 : Int32.toInt r49 = 1 := one_of hr49_lo hr49_hi c51
            have : (0 : Int32).toInt = 0 := (by decide)
            refine ok_kb2 (k_X8_found v hI_v 1 ) (fun r60 v61 hr60 => ?_)
            replace hr60 : IM v61 := hr60
            have hI_v61 := hr60
            clear hr60
            have : ((v61 36 0 3).toInt = 0 ∧ (v61 36 0 4).toInt = 0) ∨ (0 < (v61 36 0 3).toInt ∧ 0 < (v61 36 0 4).toInt) := hI_v61.2.1
            refine ok_some ?_
            show IM v61
            exact hI_v61
set_option maxHeartbeats 4000000 in
theorem k_X8_cheap (v : Mm) (hI_v : IM v) (a1 : Int32) (a2 : Int32) (a3 : Int32) : ok (g_X8_cheap v a1 a2 a3) (fun z => True) := by
  have : ((v 36 0 3).toInt = 0 ∧ (v 36 0 4).toInt = 0) ∨ (0 < (v 36 0 3).toInt ∧ 0 < (v 36 0 4).toInt) := hI_v.2.1
  have loop48 : ∀ (n48 : Nat) (x4_48 : Int32) (x5_48 : Int32) (x6_48 : Int32), ((0 : Int) ≤ Int32.toInt x6_48 ∧ Int32.toInt x6_48 ≤ (16 : Int)) → (0 < Int32.toInt (v 36 0 3)) → (0 ≤ Int32.toInt a2 ∧ Int32.toInt a2 ≤ 60) → (Int32.toInt x4_48 = -1000000 ∨ (0 ≤ Int32.toInt x4_48 ∧ Int32.toInt x4_48 ≤ 15)) → (16 - Int32.toInt x6_48 < (n48 : Int)) → ok (g_X8_cheap_L48  v a1 a2 a3 n48 x4_48 x5_48 x6_48) (fun z => True) := by
    intro n48
    induction n48 with
    | zero =>
      intro x4_48 x5_48 x6_48 hv0_48 hv1_48 hv2_48 hv3_48 hm48
      exfalso
      have : (0 : Int) ≤ (v 36 0 3).toInt ∧ (v 36 0 3).toInt ≤ (6 : Int) := hI_v.1 36 0 3
      omega
    | succ n48 ih48 =>
      intro x4_48 x5_48 x6_48 hv0_48 hv1_48 hv2_48 hv3_48 hm48
      show ok (b_X8_cheap_L48  (g_X8_cheap_L48  v a1 a2 a3 n48) v a1 a2 a3 x4_48 x5_48 x6_48) _
      unfold b_X8_cheap_L48
      try rw [tc_4]
      try rw [tc_6]
      have : (0 : Int) ≤ (v 36 0 3).toInt ∧ (v 36 0 3).toInt ≤ (6 : Int) := hI_v.1 36 0 3
      have loop141 : ∀ (n141 : Nat) (x4_141 : Int32) (x5_141 : Int32) (x6_141 : Int32) (x7_141 : Int32) (x8_141 : Int32) (x9_141 : Int32), ((0 : Int) ≤ Int32.toInt x6_141 ∧ Int32.toInt x6_141 ≤ (15 : Int)) → ((0 : Int) ≤ Int32.toInt x9_141 ∧ Int32.toInt x9_141 ≤ (6 : Int)) → (0 < Int32.toInt (v 36 0 3)) → (0 ≤ Int32.toInt a2 ∧ Int32.toInt a2 ≤ 60) → (Int32.toInt x4_141 = -1000000 ∨ (0 ≤ Int32.toInt x4_141 ∧ Int32.toInt x4_141 ≤ 15)) → (16 - Int32.toInt x6_141 < (n48 : Int) + 1) → (6 - Int32.toInt x9_141 < (n141 : Int)) → ok (g_X8_cheap_L141 (g_X8_cheap_L48  v a1 a2 a3 n48) v a1 a2 a3 n141 x4_141 x5_141 x6_141 x7_141 x8_141 x9_141) (fun z => True) := by
        intro n141
        induction n141 with
        | zero =>
          intro x4_141 x5_141 x6_141 x7_141 x8_141 x9_141 hv0_141 hv1_141 hv2_141 hv3_141 hv4_141 hv5_141 hm141
          exfalso
          have : (0 : Int) ≤ (v 36 0 3).toInt ∧ (v 36 0 3).toInt ≤ (6 : Int) := hI_v.1 36 0 3
          omega
        | succ n141 ih141 =>
          intro x4_141 x5_141 x6_141 x7_141 x8_141 x9_141 hv0_141 hv1_141 hv2_141 hv3_141 hv4_141 hv5_141 hm141
          show ok (b_X8_cheap_L141 (g_X8_cheap_L48  v a1 a2 a3 n48) (g_X8_cheap_L141 (g_X8_cheap_L48  v a1 a2 a3 n48) v a1 a2 a3 n141) v a1 a2 a3 x4_141 x5_141 x6_141 x7_141 x8_141 x9_141) _
          unfold b_X8_cheap_L141
          try rw [tc_4]
          try rw [tc_6]
          have : (0 : Int) ≤ (v 36 0 3).toInt ∧ (v 36 0 3).toInt ≤ (6 : Int) := hI_v.1 36 0 3
          refine ok_ite _ (fun c1 => ?_) (fun c1 => ?_)
          · skip
            have ic1 := i_le c1
            have : (6 : Int32).toInt = 6 := (by decide)
            refine ok_ite _ (fun c2 => ?_) (fun c2 => ?_)
            · skip
              have ic2 := i_eq c2
              have : (0 : Int32).toInt = 0 := (by decide)
              have : (1 : Int32).toInt = 1 := (by decide)
              have := i_bd x6_141
              (first | have := sp_addx x6_141 (1 : Int32) (by omega) | obtain ⟨k1, hk1⟩ := sp_add x6_141 (1 : Int32))
              exact ih48 x4_141 x5_141 (x6_141 + 1) (by omega) (by omega) (by omega) (by omega) (by omega)
            · skip
              have ic2 := i_ne c2
              have : (0 : Int32).toInt = 0 := (by decide)
              refine ok_ite _ (fun c5 => ?_) (fun c5 => ?_)
              · skip
                have ic5 := i_eq c5
                have : (-1000000 : Int32).toInt = -1000000 := (by decide)
                have : (1 : Int32).toInt = 1 := (by decide)
                have := i_bd x6_141
                (first | have := sp_addx x6_141 (1 : Int32) (by omega) | obtain ⟨k2, hk2⟩ := sp_add x6_141 (1 : Int32))
                exact ih48 x6_141 x7_141 (x6_141 + 1) (by omega) (by omega) (by omega) (by omega) (by omega)
              · skip
                have ic5 := i_ne c5
                have : (-1000000 : Int32).toInt = -1000000 := (by decide)
                refine ok_ite _ (fun c8 => ?_) (fun c8 => ?_)
                · skip
                  have ic8 := i_lt c8
                  have : (1 : Int32).toInt = 1 := (by decide)
                  have := i_bd x6_141
                  (first | have := sp_addx x6_141 (1 : Int32) (by omega) | obtain ⟨k3, hk3⟩ := sp_add x6_141 (1 : Int32))
                  exact ih48 x6_141 x7_141 (x6_141 + 1) (by omega) (by omega) (by omega) (by omega) (by omega)
                · skip
                  have ic8 := i_nlt c8
                  refine ok_ite _ (fun c11 => ?_) (fun c11 => ?_)
                  · skip
                    have ic11 := i_eq c11
                    refine ok_bind (k_X8_ones v hI_v x6_141 (by omega)) (fun r13 hr13 => ?_)
                    replace hr13 : (0 : Int) ≤ Int32.toInt r13 ∧ Int32.toInt r13 ≤ (6 : Int) ∧ (Int32.toInt x6_141 = 0 ∨ 0 < Int32.toInt r13) := hr13
                    obtain ⟨hr13_lo, hr13_hi, hr13_p0⟩ := hr13
                    refine ok_bind (k_X8_ones v hI_v x4_141 (by omega)) (fun r16 hr16 => ?_)
                    replace hr16 : (0 : Int) ≤ Int32.toInt r16 ∧ Int32.toInt r16 ≤ (6 : Int) ∧ (Int32.toInt x4_141 = 0 ∨ 0 < Int32.toInt r16) := hr16
                    obtain ⟨hr16_lo, hr16_hi, hr16_p0⟩ := hr16
                    refine ok_ite _ (fun c18 => ?_) (fun c18 => ?_)
                    · skip
                      have ic18 := i_le c18
                      have : (1 : Int32).toInt = 1 := (by decide)
                      have := i_bd x6_141
                      (first | have := sp_addx x6_141 (1 : Int32) (by omega) | obtain ⟨k4, hk4⟩ := sp_add x6_141 (1 : Int32))
                      exact ih48 x4_141 x5_141 (x6_141 + 1) (by omega) (by omega) (by omega) (by omega) (by omega)
                    · skip
                      have ic18 := i_nle c18
                      have : (1 : Int32).toInt = 1 := (by decide)
                      have := i_bd x6_141
                      (first | have := sp_addx x6_141 (1 : Int32) (by omega) | obtain ⟨k5, hk5⟩ := sp_add x6_141 (1 : Int32))
                      exact ih48 x6_141 x7_141 (x6_141 + 1) (by omega) (by omega) (by omega) (by omega) (by omega)
                  · skip
                    have ic11 := i_ne c11
                    have : (1 : Int32).toInt = 1 := (by decide)
                    have := i_bd x6_141
                    (first | have := sp_addx x6_141 (1 : Int32) (by omega) | obtain ⟨k6, hk6⟩ := sp_add x6_141 (1 : Int32))
                    exact ih48 x4_141 x5_141 (x6_141 + 1) (by omega) (by omega) (by omega) (by omega) (by omega)
          · skip
            have ic1 := i_nle c1
            have : (6 : Int32).toInt = 6 := (by decide)
            refine ok_ite _ (fun c25 => ?_) (fun c25 => ?_)
            · skip
              have ic25 := i_eq c25
              have : (0 : Int32).toInt = 0 := (by decide)
              have : (0 : Int32).toInt = 0 := (by decide)
              have : (1 : Int32).toInt = 1 := (by decide)
              have := i_bd x9_141
              (first | have := sp_addx x9_141 (1 : Int32) (by omega) | obtain ⟨k7, hk7⟩ := sp_add x9_141 (1 : Int32))
              exact ih141 x4_141 x5_141 x6_141 x7_141 0 (x9_141 + 1) (by omega) (by omega) (by omega) (by omega) (by omega) (by omega) (by omega)
            · skip
              have ic25 := i_ne c25
              have : (0 : Int32).toInt = 0 := (by decide)
              refine ok_bind (k_X8_areIn v hI_v a1 x9_141 a2 ((v 36 0 6) &&& (x6_141 ^^^ ((-1)))) (by omega) (by omega) (by omega) (by omega)) (fun r27 hr27 => ?_)
              replace hr27 : (0 : Int) ≤ Int32.toInt r27 ∧ Int32.toInt r27 ≤ (1 : Int) := hr27
              obtain ⟨hr27_lo, hr27_hi⟩ := hr27
              refine ok_ite _ (fun c29 => ?_) (fun c29 => ?_)
              · skip
                have ic29 := i_eq c29
                have : (0 : Int32).toInt = 0 := (by decide)
                have : (0 : Int32).toInt = 0 := (by decide)
                have : (1 : Int32).toInt = 1 := (by decide)
                have := i_bd x9_141
                (first | have := sp_addx x9_141 (1 : Int32) (by omega) | obtain ⟨k8, hk8⟩ := sp_add x9_141 (1 : Int32))
                exact ih141 x4_141 x5_141 x6_141 x7_141 0 (x9_141 + 1) (by omega) (by omega) (by omega) (by omega) (by omega) (by omega) (by omega)
              · skip
                have ic29 : Int32.toInt r27 = 1 := one_of hr27_lo hr27_hi c29
                have : (0 : Int32).toInt = 0 := (by decide)
                have : (1 : Int32).toInt = 1 := (by decide)
                have := i_bd x9_141
                (first | have := sp_addx x9_141 (1 : Int32) (by omega) | obtain ⟨k9, hk9⟩ := sp_add x9_141 (1 : Int32))
                exact ih141 x4_141 x5_141 x6_141 x7_141 1 (x9_141 + 1) (by omega) (by omega) (by omega) (by omega) (by omega) (by omega) (by omega)
      have loop88 : ∀ (n88 : Nat) (x4_88 : Int32) (x5_88 : Int32) (x6_88 : Int32) (x7_88 : Int32) (x8_88 : Int32) (x9_88 : Int32), ((0 : Int) ≤ Int32.toInt x6_88 ∧ Int32.toInt x6_88 ≤ (15 : Int)) → ((0 : Int) ≤ Int32.toInt x9_88 ∧ Int32.toInt x9_88 ≤ (4 : Int)) → (0 < Int32.toInt (v 36 0 3)) → (0 ≤ Int32.toInt a2 ∧ Int32.toInt a2 ≤ 60) → (Int32.toInt x4_88 = -1000000 ∨ (0 ≤ Int32.toInt x4_88 ∧ Int32.toInt x4_88 ≤ 15)) → (16 - Int32.toInt x6_88 < (n48 : Int) + 1) → (4 - Int32.toInt x9_88 < (n88 : Int)) → ok (g_X8_cheap_L88 (g_X8_cheap_L48  v a1 a2 a3 n48) v a1 a2 a3 n88 x4_88 x5_88 x6_88 x7_88 x8_88 x9_88) (fun z => True) := by
        intro n88
        induction n88 with
        | zero =>
          intro x4_88 x5_88 x6_88 x7_88 x8_88 x9_88 hv0_88 hv1_88 hv2_88 hv3_88 hv4_88 hv5_88 hm88
          exfalso
          have : (0 : Int) ≤ (v 36 0 3).toInt ∧ (v 36 0 3).toInt ≤ (6 : Int) := hI_v.1 36 0 3
          omega
        | succ n88 ih88 =>
          intro x4_88 x5_88 x6_88 x7_88 x8_88 x9_88 hv0_88 hv1_88 hv2_88 hv3_88 hv4_88 hv5_88 hm88
          show ok (b_X8_cheap_L88 (g_X8_cheap_L48  v a1 a2 a3 n48) (g_X8_cheap_L88 (g_X8_cheap_L48  v a1 a2 a3 n48) v a1 a2 a3 n88) v a1 a2 a3 x4_88 x5_88 x6_88 x7_88 x8_88 x9_88) _
          unfold b_X8_cheap_L88
          try rw [tc_4]
          try rw [tc_6]
          have : (0 : Int) ≤ (v 36 0 3).toInt ∧ (v 36 0 3).toInt ≤ (6 : Int) := hI_v.1 36 0 3
          refine ok_ite _ (fun c30 => ?_) (fun c30 => ?_)
          · skip
            have ic30 := i_le c30
            have : (0 : Int) ≤ (v 36 0 4).toInt ∧ (v 36 0 4).toInt ≤ (4 : Int) := hI_v.1 36 0 4
            have : (0 : Int32).toInt = 0 := (by decide)
            exact loop141 2000 x4_88 x5_88 x6_88 x7_88 x8_88 0 (by omega) (by omega) (by omega) (by omega) (by omega) (by omega) (by omega)
          · skip
            have ic30 := i_nle c30
            have : (0 : Int) ≤ (v 36 0 4).toInt ∧ (v 36 0 4).toInt ≤ (4 : Int) := hI_v.1 36 0 4
            refine ok_bind (k_X8_has v hI_v x6_88 x9_88 ) (fun r32 hr32 => ?_)
            replace hr32 : (0 : Int) ≤ Int32.toInt r32 ∧ Int32.toInt r32 ≤ (1 : Int) := hr32
            obtain ⟨hr32_lo, hr32_hi⟩ := hr32
            refine ok_ite _ (fun c34 => ?_) (fun c34 => ?_)
            · skip
              have ic34 := i_eq c34
              have : (0 : Int32).toInt = 0 := (by decide)
              have : (0 : Int32).toInt = 0 := (by decide)
              have := i_bd x7_88
              (first | have := sp_addx x7_88 (0 : Int32) (by omega) | obtain ⟨k10, hk10⟩ := sp_add x7_88 (0 : Int32))
              have : (1 : Int32).toInt = 1 := (by decide)
              have := i_bd x9_88
              (first | have := sp_addx x9_88 (1 : Int32) (by omega) | obtain ⟨k11, hk11⟩ := sp_add x9_88 (1 : Int32))
              exact ih88 x4_88 x5_88 x6_88 (x7_88 + 0) x8_88 (x9_88 + 1) (by omega) (by omega) (by omega) (by omega) (by omega) (by omega) (by omega)
            · skip
              have ic34 : Int32.toInt r32 = 1 := one_of hr32_lo hr32_hi c34
              have : (0 : Int32).toInt = 0 := (by decide)
              refine ok_grd _ ?_ ?_
              · skip
                have : (26 : Int32).toInt = 26 := (by decide)
                have : (3 : Int32).toInt = 3 := (by decide)
                (first | have := sp_cmulx (3 : Int32) x9_88 3 (by decide) (by omega) | obtain ⟨k12, hk12⟩ := sp_cmul (3 : Int32) x9_88 3 (by decide))
                (first | have := sp_addx (26 : Int32) ((3 : Int32) * x9_88) (by omega) | obtain ⟨k13, hk13⟩ := sp_add (26 : Int32) ((3 : Int32) * x9_88))
                have : (1 : Int32).toInt = 1 := (by decide)
                (first | have := sp_addx ((26 : Int32) + ((3 : Int32) * x9_88)) (1 : Int32) (by omega) | obtain ⟨k14, hk14⟩ := sp_add ((26 : Int32) + ((3 : Int32) * x9_88)) (1 : Int32))
                exact gr (by omega) (by omega)
              refine ok_let (fun x36 ex36 => ?_)
              have : (26 : Int32).toInt = 26 := (by decide)
              have : (3 : Int32).toInt = 3 := (by decide)
              (first | have := sp_cmulx (3 : Int32) x9_88 3 (by decide) (by omega) | obtain ⟨k15, hk15⟩ := sp_cmul (3 : Int32) x9_88 3 (by decide))
              (first | have := sp_addx (26 : Int32) ((3 : Int32) * x9_88) (by omega) | obtain ⟨k16, hk16⟩ := sp_add (26 : Int32) ((3 : Int32) * x9_88))
              have : (1 : Int32).toInt = 1 := (by decide)
              (first | have := sp_addx ((26 : Int32) + ((3 : Int32) * x9_88)) (1 : Int32) (by omega) | obtain ⟨k17, hk17⟩ := sp_add ((26 : Int32) + ((3 : Int32) * x9_88)) (1 : Int32))
              (try have := gw_w hI_v.1 (e := (((26 : Int32) + ((3 : Int32) * x9_88)) + 1)) (by omega) (by omega) (by omega))
              (try have := gw_g hI_v.1 (e := (((26 : Int32) + ((3 : Int32) * x9_88)) + 1)) (by omega) (by omega) (by omega))
              have := i_bd x7_88
              have := i_bd (v 36 0 (Int32.toNatClampNeg (((26 : Int32) + ((3 : Int32) * x9_88)) + 1)))
              (first | have := sp_addx x7_88 (v 36 0 (Int32.toNatClampNeg (((26 : Int32) + ((3 : Int32) * x9_88)) + 1))) (by omega) | obtain ⟨k18, hk18⟩ := sp_add x7_88 (v 36 0 (Int32.toNatClampNeg (((26 : Int32) + ((3 : Int32) * x9_88)) + 1))))
              have := i_eq ex36
              have : (1 : Int32).toInt = 1 := (by decide)
              have := i_bd x9_88
              (first | have := sp_addx x9_88 (1 : Int32) (by omega) | obtain ⟨k19, hk19⟩ := sp_add x9_88 (1 : Int32))
              exact ih88 x4_88 x5_88 x6_88 x36 x8_88 (x9_88 + 1) (by omega) (by omega) (by omega) (by omega) (by omega) (by omega) (by omega)
      refine ok_ite _ (fun c37 => ?_) (fun c37 => ?_)
      · skip
        have ic37 := i_lt c37
        have : (0 : Int) ≤ (v 36 0 6).toInt ∧ (v 36 0 6).toInt ≤ (15 : Int) := hI_v.1 36 0 6
        refine ok_ite _ (fun c38 => ?_) (fun c38 => ?_)
        · skip
          have ic38 := i_eq c38
          have : (0 : Int32).toInt = 0 := (by decide)
          refine ok_some ?_
          show True
          trivial
        · skip
          have ic38 := i_ne c38
          have : (0 : Int32).toInt = 0 := (by decide)
          refine ok_some ?_
          show True
          trivial
      · skip
        have ic37 := i_nlt c37
        have : (0 : Int) ≤ (v 36 0 6).toInt ∧ (v 36 0 6).toInt ≤ (15 : Int) := hI_v.1 36 0 6
        refine ok_ite _ (fun c39 => ?_) (fun c39 => ?_)
        · skip
          have ic39 := i_eq c39
          have : (0 : Int) ≤ (v 36 0 6).toInt ∧ (v 36 0 6).toInt ≤ (15 : Int) := hI_v.1 36 0 6
          have : (-1 : Int32).toInt = -1 := (by decide)
          (try have := sp_xor64 (a := (v 36 0 6)) (b := (-1 : Int32)) (by omega) (by omega) (by omega) (by omega))
          (try have := sp_xor16 (a := (v 36 0 6)) (b := (-1 : Int32)) (by omega) (by omega) (by omega) (by omega))
          (try have := sp_andl (a := x6_48) (b := ((v 36 0 6) ^^^ ((-1)))) (by omega) (by omega))
          (try have := sp_and64 (a := x6_48) (b := ((v 36 0 6) ^^^ ((-1)))) (by omega) (by omega) (by omega) (by omega))
          have : (0 : Int32).toInt = 0 := (by decide)
          have : (0 : Int32).toInt = 0 := (by decide)
          have : (1 : Int32).toInt = 1 := (by decide)
          exact loop88 2000 x4_48 x5_48 x6_48 0 1 0 (by omega) (by omega) (by omega) (by omega) (by omega) (by omega) (by omega)
        · skip
          have ic39 := i_ne c39
          have : (0 : Int) ≤ (v 36 0 6).toInt ∧ (v 36 0 6).toInt ≤ (15 : Int) := hI_v.1 36 0 6
          have : (-1 : Int32).toInt = -1 := (by decide)
          (try have := sp_xor64 (a := (v 36 0 6)) (b := (-1 : Int32)) (by omega) (by omega) (by omega) (by omega))
          (try have := sp_xor16 (a := (v 36 0 6)) (b := (-1 : Int32)) (by omega) (by omega) (by omega) (by omega))
          (try have := sp_andl (a := x6_48) (b := ((v 36 0 6) ^^^ ((-1)))) (by omega) (by omega))
          (try have := sp_and64 (a := x6_48) (b := ((v 36 0 6) ^^^ ((-1)))) (by omega) (by omega) (by omega) (by omega))
          have : (0 : Int32).toInt = 0 := (by decide)
          have : (0 : Int32).toInt = 0 := (by decide)
          exact loop88 2000 x4_48 x5_48 x6_48 0 0 0 (by omega) (by omega) (by omega) (by omega) (by omega) (by omega) (by omega)
  unfold g_X8_cheap
  try rw [tc_4]
  try rw [tc_6]
  refine ok_bind (k_X8_isGate v hI_v  ) (fun r41 hr41 => ?_)
  replace hr41 : (0 : Int) ≤ Int32.toInt r41 ∧ Int32.toInt r41 ≤ (1 : Int) ∧ ((Int32.toInt r41 = 0 ∧ Int32.toInt (v 36 0 3) = 0) ∨ 0 < Int32.toInt (v 36 0 3)) := hr41
  obtain ⟨hr41_lo, hr41_hi, hr41_p0⟩ := hr41
  have : (0 : Int) ≤ (v 36 0 3).toInt ∧ (v 36 0 3).toInt ≤ (6 : Int) := hI_v.1 36 0 3
  refine ok_ite _ (fun c43 => ?_) (fun c43 => ?_)
  · skip
    have ic43 := i_eq c43
    have : (0 : Int32).toInt = 0 := (by decide)
    refine ok_some ?_
    show True
    have : (-1000002 : Int32).toInt = -1000002 := (by decide)
    trivial
  · skip
    have ic43 : Int32.toInt r41 = 1 := one_of hr41_lo hr41_hi c43
    have : (0 : Int32).toInt = 0 := (by decide)
    refine ok_bind (k_X8_areWords v hI_v a1 ) (fun r45 hr45 => ?_)
    replace hr45 : (0 : Int) ≤ Int32.toInt r45 ∧ Int32.toInt r45 ≤ (1 : Int) ∧ ((Int32.toInt r45 = 0 ∨ (0 ≤ Int32.toInt a1 ∧ Int32.toInt a1 ≤ 63))) := hr45
    obtain ⟨hr45_lo, hr45_hi, hr45_p0⟩ := hr45
    refine ok_ite _ (fun c47 => ?_) (fun c47 => ?_)
    · skip
      have ic47 := i_eq c47
      try clear hr45_p0
      have : (0 : Int32).toInt = 0 := (by decide)
      refine ok_some ?_
      show True
      have : (-1000001 : Int32).toInt = -1000001 := (by decide)
      trivial
    · skip
      have ic47 : Int32.toInt r45 = 1 := one_of hr45_lo hr45_hi c47
      try replace hr45_p0 : (0 ≤ Int32.toInt a1 ∧ Int32.toInt a1 ≤ 63) := orr hr45_p0 ic47
      have : (0 : Int32).toInt = 0 := (by decide)
      refine ok_bind (k_X8_isFar v hI_v a2 ) (fun r49 hr49 => ?_)
      replace hr49 : (0 : Int) ≤ Int32.toInt r49 ∧ Int32.toInt r49 ≤ (1 : Int) ∧ ((Int32.toInt r49 = 0 ∨ (0 ≤ Int32.toInt a2 ∧ Int32.toInt a2 ≤ 60))) := hr49
      obtain ⟨hr49_lo, hr49_hi, hr49_p0⟩ := hr49
      refine ok_ite _ (fun c51 => ?_) (fun c51 => ?_)
      · skip
        have ic51 := i_eq c51
        try clear hr49_p0
        have : (0 : Int32).toInt = 0 := (by decide)
        refine ok_some ?_
        show True
        have : (-1000001 : Int32).toInt = -1000001 := (by decide)
        trivial
      · skip
        have ic51 : Int32.toInt r49 = 1 := one_of hr49_lo hr49_hi c51
        try replace hr49_p0 : (0 ≤ Int32.toInt a2 ∧ Int32.toInt a2 ≤ 60) := orr hr49_p0 ic51
        have : (0 : Int32).toInt = 0 := (by decide)
        refine ok_bind (k_X8_in v hI_v a3 0 1 ) (fun r53 hr53 => ?_)
        replace hr53 : (0 : Int) ≤ Int32.toInt r53 ∧ Int32.toInt r53 ≤ (1 : Int) ∧ (Int32.toInt r53 = 0 ∨ (Int32.toInt 0 ≤ Int32.toInt a3 ∧ Int32.toInt a3 ≤ Int32.toInt 1)) := hr53
        obtain ⟨hr53_lo, hr53_hi, hr53_p0⟩ := hr53
        have : (0 : Int32).toInt = 0 := (by decide)
        have : (1 : Int32).toInt = 1 := (by decide)
        refine ok_ite _ (fun c55 => ?_) (fun c55 => ?_)
        · skip
          have ic55 := i_eq c55
          try clear hr53_p0
          have : (0 : Int32).toInt = 0 := (by decide)
          refine ok_some ?_
          show True
          have : (-1000001 : Int32).toInt = -1000001 := (by decide)
          trivial
        · skip
          have ic55 : Int32.toInt r53 = 1 := one_of hr53_lo hr53_hi c55
          try replace hr53_p0 : (Int32.toInt 0 ≤ Int32.toInt a3 ∧ Int32.toInt a3 ≤ Int32.toInt 1) := orr hr53_p0 ic55
          have : (0 : Int32).toInt = 0 := (by decide)
          have : (-1000000 : Int32).toInt = -1000000 := (by decide)
          have : (0 : Int32).toInt = 0 := (by decide)
          exact loop48 2000 (-1000000) (-1000000) 0 (by omega) (by omega) (by omega) (by omega) (by omega)
set_option maxHeartbeats 4000000 in
theorem k_X8_near (v : Mm) (hI_v : IM v) (a1 : Int32) (a2 : Int32) : ok (g_X8_near v a1 a2) (fun z => True) := by
  have : ((v 36 0 3).toInt = 0 ∧ (v 36 0 4).toInt = 0) ∨ (0 < (v 36 0 3).toInt ∧ 0 < (v 36 0 4).toInt) := hI_v.2.1
  have loop26 : ∀ (n26 : Nat) (x3_26 : Int32) (x4_26 : Int32), ((0 : Int) ≤ Int32.toInt x4_26 ∧ Int32.toInt x4_26 ≤ (6 : Int)) → (0 ≤ Int32.toInt a1 ∧ Int32.toInt a1 ≤ 5) → (Int32.toInt x3_26 = -1000000 ∨ (0 ≤ Int32.toInt x3_26 ∧ Int32.toInt x3_26 ≤ 5)) → (6 - Int32.toInt x4_26 < (n26 : Int)) → ok (g_X8_near_L26  v a1 a2 n26 x3_26 x4_26) (fun z => True) := by
    intro n26
    induction n26 with
    | zero =>
      intro x3_26 x4_26 hv0_26 hv1_26 hv2_26 hm26
      exfalso
      omega
    | succ n26 ih26 =>
      intro x3_26 x4_26 hv0_26 hv1_26 hv2_26 hm26
      show ok (b_X8_near_L26  (g_X8_near_L26  v a1 a2 n26) v a1 a2 x3_26 x4_26) _
      unfold b_X8_near_L26
      try rw [tc_3]
      refine ok_ite _ (fun c1 => ?_) (fun c1 => ?_)
      · skip
        have ic1 := i_le c1
        have : (0 : Int) ≤ (v 36 0 3).toInt ∧ (v 36 0 3).toInt ≤ (6 : Int) := hI_v.1 36 0 3
        refine ok_ite _ (fun c2 => ?_) (fun c2 => ?_)
        · skip
          have ic2 := i_eq c2
          have : (-1000000 : Int32).toInt = -1000000 := (by decide)
          refine ok_some ?_
          show True
          trivial
        · skip
          have ic2 := i_ne c2
          have : (-1000000 : Int32).toInt = -1000000 := (by decide)
          refine ok_ite _ (fun c3 => ?_) (fun c3 => ?_)
          · skip
            have ic3 := i_eq c3
            have : (0 : Int32).toInt = 0 := (by decide)
            refine ok_some ?_
            show True
            trivial
          · skip
            have ic3 := i_ne c3
            have : (0 : Int32).toInt = 0 := (by decide)
            refine ok_bind (k_X8_distance v hI_v x3_26 a1 (by omega) (by omega)) (fun r5 hr5 => ?_)
            replace hr5 : (0 : Int) ≤ Int32.toInt r5 ∧ Int32.toInt r5 ≤ (3 : Int) := hr5
            obtain ⟨hr5_lo, hr5_hi⟩ := hr5
            refine ok_some ?_
            show True
            trivial
      · skip
        have ic1 := i_nle c1
        have : (0 : Int) ≤ (v 36 0 3).toInt ∧ (v 36 0 3).toInt ≤ (6 : Int) := hI_v.1 36 0 3
        refine ok_ite _ (fun c7 => ?_) (fun c7 => ?_)
        · skip
          have ic7 := i_eq c7
          have : (1 : Int32).toInt = 1 := (by decide)
          have := i_bd x4_26
          (first | have := sp_addx x4_26 (1 : Int32) (by omega) | obtain ⟨k1, hk1⟩ := sp_add x4_26 (1 : Int32))
          exact ih26 x3_26 (x4_26 + 1) (by omega) (by omega) (by omega) (by omega)
        · skip
          have ic7 := i_ne c7
          refine ok_ite _ (fun c8 => ?_) (fun c8 => ?_)
          · skip
            have ic8 := i_eq c8
            have : (-1000000 : Int32).toInt = -1000000 := (by decide)
            have : (1 : Int32).toInt = 1 := (by decide)
            have := i_bd x4_26
            (first | have := sp_addx x4_26 (1 : Int32) (by omega) | obtain ⟨k2, hk2⟩ := sp_add x4_26 (1 : Int32))
            exact ih26 x4_26 (x4_26 + 1) (by omega) (by omega) (by omega) (by omega)
          · skip
            have ic8 := i_ne c8
            have : (-1000000 : Int32).toInt = -1000000 := (by decide)
            refine ok_bind (k_X8_distance v hI_v x4_26 a1 (by omega) (by omega)) (fun r10 hr10 => ?_)
            replace hr10 : (0 : Int) ≤ Int32.toInt r10 ∧ Int32.toInt r10 ≤ (3 : Int) := hr10
            obtain ⟨hr10_lo, hr10_hi⟩ := hr10
            refine ok_bind (k_X8_distance v hI_v x3_26 a1 (by omega) (by omega)) (fun r13 hr13 => ?_)
            replace hr13 : (0 : Int) ≤ Int32.toInt r13 ∧ Int32.toInt r13 ≤ (3 : Int) := hr13
            obtain ⟨hr13_lo, hr13_hi⟩ := hr13
            refine ok_ite _ (fun c15 => ?_) (fun c15 => ?_)
            · skip
              have ic15 := i_le c15
              have : (1 : Int32).toInt = 1 := (by decide)
              have := i_bd x4_26
              (first | have := sp_addx x4_26 (1 : Int32) (by omega) | obtain ⟨k3, hk3⟩ := sp_add x4_26 (1 : Int32))
              exact ih26 x3_26 (x4_26 + 1) (by omega) (by omega) (by omega) (by omega)
            · skip
              have ic15 := i_nle c15
              have : (1 : Int32).toInt = 1 := (by decide)
              have := i_bd x4_26
              (first | have := sp_addx x4_26 (1 : Int32) (by omega) | obtain ⟨k4, hk4⟩ := sp_add x4_26 (1 : Int32))
              exact ih26 x4_26 (x4_26 + 1) (by omega) (by omega) (by omega) (by omega)
  unfold g_X8_near
  try rw [tc_3]
  refine ok_bind (k_X8_isWord v hI_v a1 ) (fun r17 hr17 => ?_)
  replace hr17 : (0 : Int) ≤ Int32.toInt r17 ∧ Int32.toInt r17 ≤ (1 : Int) ∧ ((Int32.toInt r17 = 0 ∨ (0 ≤ Int32.toInt a1 ∧ Int32.toInt a1 ≤ 5 ∧ 0 < Int32.toInt (v 36 0 3)))) := hr17
  obtain ⟨hr17_lo, hr17_hi, hr17_p0⟩ := hr17
  have : (0 : Int) ≤ (v 36 0 3).toInt ∧ (v 36 0 3).toInt ≤ (6 : Int) := hI_v.1 36 0 3
  refine ok_ite _ (fun c19 => ?_) (fun c19 => ?_)
  · skip
    have ic19 := i_eq c19
    try clear hr17_p0
    have : (0 : Int32).toInt = 0 := (by decide)
    refine ok_some ?_
    show True
    have : (-1000001 : Int32).toInt = -1000001 := (by decide)
    trivial
  · skip
    have ic19 : Int32.toInt r17 = 1 := one_of hr17_lo hr17_hi c19
    try replace hr17_p0 : (0 ≤ Int32.toInt a1 ∧ Int32.toInt a1 ≤ 5 ∧ 0 < Int32.toInt (v 36 0 3)) := orr hr17_p0 ic19
    have : (0 : Int32).toInt = 0 := (by decide)
    refine ok_bind (k_X8_in v hI_v a2 0 1 ) (fun r21 hr21 => ?_)
    replace hr21 : (0 : Int) ≤ Int32.toInt r21 ∧ Int32.toInt r21 ≤ (1 : Int) ∧ (Int32.toInt r21 = 0 ∨ (Int32.toInt 0 ≤ Int32.toInt a2 ∧ Int32.toInt a2 ≤ Int32.toInt 1)) := hr21
    obtain ⟨hr21_lo, hr21_hi, hr21_p0⟩ := hr21
    have : (0 : Int32).toInt = 0 := (by decide)
    have : (1 : Int32).toInt = 1 := (by decide)
    refine ok_ite _ (fun c23 => ?_) (fun c23 => ?_)
    · skip
      have ic23 := i_eq c23
      try clear hr21_p0
      have : (0 : Int32).toInt = 0 := (by decide)
      refine ok_some ?_
      show True
      have : (-1000001 : Int32).toInt = -1000001 := (by decide)
      trivial
    · skip
      have ic23 : Int32.toInt r21 = 1 := one_of hr21_lo hr21_hi c23
      try replace hr21_p0 : (Int32.toInt 0 ≤ Int32.toInt a2 ∧ Int32.toInt a2 ≤ Int32.toInt 1) := orr hr21_p0 ic23
      have : (0 : Int32).toInt = 0 := (by decide)
      have : (-1000000 : Int32).toInt = -1000000 := (by decide)
      have : (0 : Int32).toInt = 0 := (by decide)
      exact loop26 2000 (-1000000) 0 (by omega) (by omega) (by omega) (by omega)
set_option maxHeartbeats 4000000 in
theorem k_X8_rules (v : Mm) (hI_v : IM v) (a1 : Int32) (a2 : Int32) (a3 : Int32) (a4 : Int32) : ok (g_X8_rules v a1 a2 a3 a4) (fun z => IM z.2) := by
  have : ((v 36 0 3).toInt = 0 ∧ (v 36 0 4).toInt = 0) ∨ (0 < (v 36 0 3).toInt ∧ 0 < (v 36 0 4).toInt) := hI_v.2.1
  have loop76 : ∀ (n76 : Nat) (w76 : Mm) (x5_76 : Int32) (x6_76 : Int32), (IM w76) → ((0 : Int) ≤ Int32.toInt x6_76 ∧ Int32.toInt x6_76 ≤ (10 : Int)) → (0 ≤ Int32.toInt a1 ∧ Int32.toInt a1 ≤ 7) → (0 ≤ Int32.toInt a2) → (Int32.toInt a2 + Int32.toInt a3 ≤ 40) → (Int32.toInt a3 ≤ 16) → (0 ≤ Int32.toInt a4 ∧ Int32.toInt a4 ≤ 2) → (0 < Int32.toInt (w76 36 0 3)) → (10 - Int32.toInt x6_76 < (n76 : Int)) → ok (g_X8_rules_L76  a1 a2 a3 a4 n76 w76 x5_76 x6_76) (fun z => IM z.2) := by
    intro n76
    induction n76 with
    | zero =>
      intro w76 x5_76 x6_76 hI_w76 hv0_76 hv1_76 hv2_76 hv3_76 hv4_76 hv5_76 hv6_76 hm76
      exfalso
      have : (0 : Int) ≤ (w76 36 0 3).toInt ∧ (w76 36 0 3).toInt ≤ (6 : Int) := hI_w76.1 36 0 3
      omega
    | succ n76 ih76 =>
      intro w76 x5_76 x6_76 hI_w76 hv0_76 hv1_76 hv2_76 hv3_76 hv4_76 hv5_76 hv6_76 hm76
      show ok (b_X8_rules_L76  (g_X8_rules_L76  a1 a2 a3 a4 n76) a1 a2 a3 a4 w76 x5_76 x6_76) _
      unfold b_X8_rules_L76
      try rw [tc_5]
      have : ((w76 36 0 3).toInt = 0 ∧ (w76 36 0 4).toInt = 0) ∨ (0 < (w76 36 0 3).toInt ∧ 0 < (w76 36 0 4).toInt) := hI_w76.2.1
      have : (0 : Int) ≤ (w76 36 0 3).toInt ∧ (w76 36 0 3).toInt ≤ (6 : Int) := hI_w76.1 36 0 3
      have loop122 : ∀ (n122 : Nat) (w122 : Mm) (x5_122 : Int32) (x6_122 : Int32) (x7_122 : Int32) (x8_122 : Int32), (IM w122) → ((0 : Int) ≤ Int32.toInt x6_122 ∧ Int32.toInt x6_122 ≤ (9 : Int)) → ((0 : Int) ≤ Int32.toInt x8_122 ∧ Int32.toInt x8_122 ≤ (16 : Int)) → (0 ≤ Int32.toInt a1 ∧ Int32.toInt a1 ≤ 7) → (0 ≤ Int32.toInt a2) → (Int32.toInt a2 + Int32.toInt a3 ≤ 40) → (Int32.toInt a3 ≤ 16) → (0 ≤ Int32.toInt a4 ∧ Int32.toInt a4 ≤ 2) → (0 < Int32.toInt (w122 36 0 3)) → (0 < Int32.toInt (w122 38 0 3)) → (10 - Int32.toInt x6_122 < (n76 : Int) + 1) → (16 - Int32.toInt x8_122 < (n122 : Int)) → ok (g_X8_rules_L122 (g_X8_rules_L76  a1 a2 a3 a4 n76) a1 a2 a3 a4 n122 w122 x5_122 x6_122 x7_122 x8_122) (fun z => IM z.2) := by
        intro n122
        induction n122 with
        | zero =>
          intro w122 x5_122 x6_122 x7_122 x8_122 hI_w122 hv0_122 hv1_122 hv2_122 hv3_122 hv4_122 hv5_122 hv6_122 hv7_122 hv8_122 hv9_122 hm122
          exfalso
          have : (0 : Int) ≤ (w122 36 0 3).toInt ∧ (w122 36 0 3).toInt ≤ (6 : Int) := hI_w122.1 36 0 3
          omega
        | succ n122 ih122 =>
          intro w122 x5_122 x6_122 x7_122 x8_122 hI_w122 hv0_122 hv1_122 hv2_122 hv3_122 hv4_122 hv5_122 hv6_122 hv7_122 hv8_122 hv9_122 hm122
          show ok (b_X8_rules_L122 (g_X8_rules_L76  a1 a2 a3 a4 n76) (g_X8_rules_L122 (g_X8_rules_L76  a1 a2 a3 a4 n76) a1 a2 a3 a4 n122) a1 a2 a3 a4 w122 x5_122 x6_122 x7_122 x8_122) _
          unfold b_X8_rules_L122
          try rw [tc_5]
          have : ((w122 36 0 3).toInt = 0 ∧ (w122 36 0 4).toInt = 0) ∨ (0 < (w122 36 0 3).toInt ∧ 0 < (w122 36 0 4).toInt) := hI_w122.2.1
          have : (0 : Int) ≤ (w122 36 0 3).toInt ∧ (w122 36 0 3).toInt ≤ (6 : Int) := hI_w122.1 36 0 3
          refine ok_ite _ (fun c1 => ?_) (fun c1 => ?_)
          · skip
            have ic1 := i_le c1
            refine ok_ite _ (fun c2 => ?_) (fun c2 => ?_)
            · skip
              have ic2 := i_eq c2
              have : (0 : Int32).toInt = 0 := (by decide)
              have : (0 : Int32).toInt = 0 := (by decide)
              (try have := sp_or64 (a := x5_122) (b := (0 : Int32)) (by omega) (by omega) (by omega) (by omega))
              (try have := sp_or16 (a := x5_122) (b := (0 : Int32)) (by omega) (by omega) (by omega) (by omega))
              have : (1 : Int32).toInt = 1 := (by decide)
              have := i_bd x6_122
              (first | have := sp_addx x6_122 (1 : Int32) (by omega) | obtain ⟨k1, hk1⟩ := sp_add x6_122 (1 : Int32))
              exact ih76 w122 (x5_122 ||| 0) (x6_122 + 1) hI_w122 (by omega) (by omega) (by omega) (by omega) (by omega) (by omega) (by omega) (by omega)
            · skip
              have ic2 := i_ne c2
              have : (0 : Int32).toInt = 0 := (by decide)
              refine ok_let (fun x3 ex3 => ?_)
              have : (1 : Int32).toInt = 1 := (by decide)
              (try have := sp_shl4 (b := x6_122) (by omega) (by omega))
              (try have := sp_shl5 (b := x6_122) (by omega) (by omega))
              (try have := sp_shl7 (b := x6_122) (by omega) (by omega))
              (try have := sp_shl (a := (1 : Int32)) (b := x6_122) (by omega) (by omega) (by omega) (by omega))
              (try have := sp_or64 (a := x5_122) (b := ((1 : Int32) <<< (x6_122 &&& 31))) (by omega) (by omega) (by omega) (by omega))
              (try have := sp_or16 (a := x5_122) (b := ((1 : Int32) <<< (x6_122 &&& 31))) (by omega) (by omega) (by omega) (by omega))
              have := i_eq ex3
              have : (1 : Int32).toInt = 1 := (by decide)
              have := i_bd x6_122
              (first | have := sp_addx x6_122 (1 : Int32) (by omega) | obtain ⟨k2, hk2⟩ := sp_add x6_122 (1 : Int32))
              exact ih76 w122 x3 (x6_122 + 1) hI_w122 (by omega) (by omega) (by omega) (by omega) (by omega) (by omega) (by omega) (by omega)
          · skip
            have ic1 := i_nle c1
            refine ok_ite _ (fun c4 => ?_) (fun c4 => ?_)
            · skip
              have ic4 := i_eq c4
              have : (0 : Int32).toInt = 0 := (by decide)
              have : (0 : Int32).toInt = 0 := (by decide)
              have : (1 : Int32).toInt = 1 := (by decide)
              have := i_bd x8_122
              (first | have := sp_addx x8_122 (1 : Int32) (by omega) | obtain ⟨k3, hk3⟩ := sp_add x8_122 (1 : Int32))
              exact ih122 w122 x5_122 x6_122 0 (x8_122 + 1) hI_w122 (by omega) (by omega) (by omega) (by omega) (by omega) (by omega) (by omega) (by omega) (by omega) (by omega) (by omega)
            · skip
              have ic4 := i_ne c4
              have : (0 : Int32).toInt = 0 := (by decide)
              refine ok_bind (k_X8_secretOf_38 w122 hI_w122 ((w122 36 0 5) + x8_122) (by omega)) (fun r6 hr6 => ?_)
              clear hr6
              refine ok_grd _ ?_ ?_
              · skip
                have : (40 : Int32).toInt = 40 := (by decide)
                (first | have := sp_cmulx (40 : Int32) a1 40 (by decide) (by omega) | obtain ⟨k4, hk4⟩ := sp_cmul (40 : Int32) a1 40 (by decide))
                have := i_bd a2
                (first | have := sp_addx ((40 : Int32) * a1) a2 (by omega) | obtain ⟨k5, hk5⟩ := sp_add ((40 : Int32) * a1) a2)
                have := i_bd x8_122
                (first | have := sp_addx (((40 : Int32) * a1) + a2) x8_122 (by omega) | obtain ⟨k6, hk6⟩ := sp_add (((40 : Int32) * a1) + a2) x8_122)
                exact gr (by omega) (by omega)
              refine ok_ite _ (fun c9 => ?_) (fun c9 => ?_)
              · skip
                have ic9 := i_eq c9
                have : (1 : Int32).toInt = 1 := (by decide)
                have := i_bd x8_122
                (first | have := sp_addx x8_122 (1 : Int32) (by omega) | obtain ⟨k7, hk7⟩ := sp_add x8_122 (1 : Int32))
                exact ih122 w122 x5_122 x6_122 1 (x8_122 + 1) hI_w122 (by omega) (by omega) (by omega) (by omega) (by omega) (by omega) (by omega) (by omega) (by omega) (by omega) (by omega)
              · skip
                have ic9 := i_ne c9
                have : (0 : Int32).toInt = 0 := (by decide)
                have : (1 : Int32).toInt = 1 := (by decide)
                have := i_bd x8_122
                (first | have := sp_addx x8_122 (1 : Int32) (by omega) | obtain ⟨k8, hk8⟩ := sp_add x8_122 (1 : Int32))
                exact ih122 w122 x5_122 x6_122 0 (x8_122 + 1) hI_w122 (by omega) (by omega) (by omega) (by omega) (by omega) (by omega) (by omega) (by omega) (by omega) (by omega) (by omega)
      refine ok_ite _ (fun c10 => ?_) (fun c10 => ?_)
      · skip
        have ic10 := i_eq c10
        have : (2 : Int32).toInt = 2 := (by decide)
        refine ok_ite _ (fun c11 => ?_) (fun c11 => ?_)
        · skip
          have ic11 := i_lt c11
          have : (6 : Int32).toInt = 6 := (by decide)
          refine ok_kb2 (k_X8_well w76 hI_w76 x5_76 ) (fun r13 v14 hr13 => ?_)
          replace hr13 : IM v14 := hr13
          have hI_v14 := hr13
          clear hr13
          have : ((v14 36 0 3).toInt = 0 ∧ (v14 36 0 4).toInt = 0) ∨ (0 < (v14 36 0 3).toInt ∧ 0 < (v14 36 0 4).toInt) := hI_v14.2.1
          refine ok_some ?_
          show IM v14
          exact hI_v14
        · skip
          have ic11 := i_nlt c11
          have : (6 : Int32).toInt = 6 := (by decide)
          refine ok_bind (k_X8_copies_36_38 w76 hI_w76 0 0 (by have : (0 : Int32).toInt = 0 := (by decide); omega) (by have : (0 : Int32).toInt = 0 := (by decide); omega)) (fun v17 hr16 => ?_)
          replace hr16 : IM v17 ∧ (Int32.toInt (v17 38 0 3) = Int32.toInt (w76 36 0 3)) ∧ (Int32.toInt (v17 36 0 3) = Int32.toInt (w76 36 0 3)) := hr16
          obtain ⟨hI_v17, hr16_p0, hr16_p1⟩ := hr16
          have : ((v17 36 0 3).toInt = 0 ∧ (v17 36 0 4).toInt = 0) ∨ (0 < (v17 36 0 3).toInt ∧ 0 < (v17 36 0 4).toInt) := hI_v17.2.1
          have : (0 : Int) ≤ (w76 36 0 3).toInt ∧ (w76 36 0 3).toInt ≤ (6 : Int) := hI_w76.1 36 0 3
          have : (0 : Int32).toInt = 0 := (by decide)
          refine ok_grd _ ?_ ?_
          · skip
            exact gr (by omega) (by omega)
          refine ok_let (fun v19 ev19 => ?_)
          have hI_v19 : IM v19 := by rw [ev19]; exact hI_v17.upo (by decide) (by have h9 := i_bd x6_76; exact ⟨h9.1, Int.le_of_lt_add_one h9.2⟩)
          have := i_eq (show v19 36 0 3 = v17 36 0 3 by rw [ev19]; exact up3_t (by decide))
          have := i_eq (show v19 36 0 5 = v17 36 0 5 by rw [ev19]; exact up3_t (by decide))
          (try have := i_eq (show v19 38 0 3 = v17 38 0 3 by rw [ev19]; exact up3_j (tcne (by omega) (by omega))))
          have : ((v19 36 0 3).toInt = 0 ∧ (v19 36 0 4).toInt = 0) ∨ (0 < (v19 36 0 3).toInt ∧ 0 < (v19 36 0 4).toInt) := hI_v19.2.1
          have : (1 : Int32).toInt = 1 := (by decide)
          have : (0 : Int32).toInt = 0 := (by decide)
          exact loop122 2000 v19 x5_76 x6_76 1 0 hI_v19 (by omega) (by omega) (by omega) (by omega) (by omega) (by omega) (by omega) (by omega) (by omega) (by omega) (by omega)
      · skip
        have ic10 := i_ne c10
        have : (2 : Int32).toInt = 2 := (by decide)
        refine ok_ite _ (fun c20 => ?_) (fun c20 => ?_)
        · skip
          have ic20 := i_lt c20
          have : (9 : Int32).toInt = 9 := (by decide)
          refine ok_kb2 (k_X8_well w76 hI_w76 x5_76 ) (fun r22 v23 hr22 => ?_)
          replace hr22 : IM v23 := hr22
          have hI_v23 := hr22
          clear hr22
          have : ((v23 36 0 3).toInt = 0 ∧ (v23 36 0 4).toInt = 0) ∨ (0 < (v23 36 0 3).toInt ∧ 0 < (v23 36 0 4).toInt) := hI_v23.2.1
          refine ok_some ?_
          show IM v23
          exact hI_v23
        · skip
          have ic20 := i_nlt c20
          have : (9 : Int32).toInt = 9 := (by decide)
          refine ok_bind (k_X8_copies_36_38 w76 hI_w76 0 0 (by have : (0 : Int32).toInt = 0 := (by decide); omega) (by have : (0 : Int32).toInt = 0 := (by decide); omega)) (fun v26 hr25 => ?_)
          replace hr25 : IM v26 ∧ (Int32.toInt (v26 38 0 3) = Int32.toInt (w76 36 0 3)) ∧ (Int32.toInt (v26 36 0 3) = Int32.toInt (w76 36 0 3)) := hr25
          obtain ⟨hI_v26, hr25_p0, hr25_p1⟩ := hr25
          have : ((v26 36 0 3).toInt = 0 ∧ (v26 36 0 4).toInt = 0) ∨ (0 < (v26 36 0 3).toInt ∧ 0 < (v26 36 0 4).toInt) := hI_v26.2.1
          have : (0 : Int) ≤ (w76 36 0 3).toInt ∧ (w76 36 0 3).toInt ≤ (6 : Int) := hI_w76.1 36 0 3
          have : (0 : Int32).toInt = 0 := (by decide)
          refine ok_grd _ ?_ ?_
          · skip
            exact gr (by omega) (by omega)
          refine ok_let (fun v28 ev28 => ?_)
          have hI_v28 : IM v28 := by rw [ev28]; exact hI_v26.upo (by decide) (by have h9 := i_bd x6_76; exact ⟨h9.1, Int.le_of_lt_add_one h9.2⟩)
          have := i_eq (show v28 36 0 3 = v26 36 0 3 by rw [ev28]; exact up3_t (by decide))
          have := i_eq (show v28 36 0 5 = v26 36 0 5 by rw [ev28]; exact up3_t (by decide))
          (try have := i_eq (show v28 38 0 3 = v26 38 0 3 by rw [ev28]; exact up3_j (tcne (by omega) (by omega))))
          have : ((v28 36 0 3).toInt = 0 ∧ (v28 36 0 4).toInt = 0) ∨ (0 < (v28 36 0 3).toInt ∧ 0 < (v28 36 0 4).toInt) := hI_v28.2.1
          have : (1 : Int32).toInt = 1 := (by decide)
          have : (0 : Int32).toInt = 0 := (by decide)
          exact loop122 2000 v28 x5_76 x6_76 1 0 hI_v28 (by omega) (by omega) (by omega) (by omega) (by omega) (by omega) (by omega) (by omega) (by omega) (by omega) (by omega)
  unfold g_X8_rules
  try rw [tc_5]
  refine ok_bind (k_X8_isGate v hI_v  ) (fun r30 hr30 => ?_)
  replace hr30 : (0 : Int) ≤ Int32.toInt r30 ∧ Int32.toInt r30 ≤ (1 : Int) ∧ ((Int32.toInt r30 = 0 ∧ Int32.toInt (v 36 0 3) = 0) ∨ 0 < Int32.toInt (v 36 0 3)) := hr30
  obtain ⟨hr30_lo, hr30_hi, hr30_p0⟩ := hr30
  have : (0 : Int) ≤ (v 36 0 3).toInt ∧ (v 36 0 3).toInt ≤ (6 : Int) := hI_v.1 36 0 3
  refine ok_ite _ (fun c32 => ?_) (fun c32 => ?_)
  · skip
    have ic32 := i_eq c32
    have : (0 : Int32).toInt = 0 := (by decide)
    refine ok_some ?_
    show IM v
    have : (-1000002 : Int32).toInt = -1000002 := (by decide)
    exact hI_v
  · skip
    have ic32 : Int32.toInt r30 = 1 := one_of hr30_lo hr30_hi c32
    have : (0 : Int32).toInt = 0 := (by decide)
    refine ok_bind (k_X8_isRow v hI_v a1 ) (fun r34 hr34 => ?_)
    replace hr34 : (0 : Int) ≤ Int32.toInt r34 ∧ Int32.toInt r34 ≤ (1 : Int) ∧ ((Int32.toInt r34 = 0 ∨ (0 ≤ Int32.toInt a1 ∧ Int32.toInt a1 ≤ 7))) := hr34
    obtain ⟨hr34_lo, hr34_hi, hr34_p0⟩ := hr34
    refine ok_ite _ (fun c36 => ?_) (fun c36 => ?_)
    · skip
      have ic36 := i_eq c36
      try clear hr34_p0
      have : (0 : Int32).toInt = 0 := (by decide)
      refine ok_some ?_
      show IM v
      have : (-1000001 : Int32).toInt = -1000001 := (by decide)
      exact hI_v
    · skip
      have ic36 : Int32.toInt r34 = 1 := one_of hr34_lo hr34_hi c36
      try replace hr34_p0 : (0 ≤ Int32.toInt a1 ∧ Int32.toInt a1 ≤ 7) := orr hr34_p0 ic36
      have : (0 : Int32).toInt = 0 := (by decide)
      refine ok_bind (k_X8_in v hI_v a3 1 16 ) (fun r38 hr38 => ?_)
      replace hr38 : (0 : Int) ≤ Int32.toInt r38 ∧ Int32.toInt r38 ≤ (1 : Int) ∧ (Int32.toInt r38 = 0 ∨ (Int32.toInt 1 ≤ Int32.toInt a3 ∧ Int32.toInt a3 ≤ Int32.toInt 16)) := hr38
      obtain ⟨hr38_lo, hr38_hi, hr38_p0⟩ := hr38
      have : (1 : Int32).toInt = 1 := (by decide)
      have : (16 : Int32).toInt = 16 := (by decide)
      refine ok_ite _ (fun c40 => ?_) (fun c40 => ?_)
      · skip
        have ic40 := i_eq c40
        try clear hr38_p0
        have : (0 : Int32).toInt = 0 := (by decide)
        refine ok_some ?_
        show IM v
        have : (-1000001 : Int32).toInt = -1000001 := (by decide)
        exact hI_v
      · skip
        have ic40 : Int32.toInt r38 = 1 := one_of hr38_lo hr38_hi c40
        try replace hr38_p0 : (Int32.toInt 1 ≤ Int32.toInt a3 ∧ Int32.toInt a3 ≤ Int32.toInt 16) := orr hr38_p0 ic40
        have : (0 : Int32).toInt = 0 := (by decide)
        refine ok_bind (k_X8_in v hI_v a4 0 2 ) (fun r42 hr42 => ?_)
        replace hr42 : (0 : Int) ≤ Int32.toInt r42 ∧ Int32.toInt r42 ≤ (1 : Int) ∧ (Int32.toInt r42 = 0 ∨ (Int32.toInt 0 ≤ Int32.toInt a4 ∧ Int32.toInt a4 ≤ Int32.toInt 2)) := hr42
        obtain ⟨hr42_lo, hr42_hi, hr42_p0⟩ := hr42
        have : (0 : Int32).toInt = 0 := (by decide)
        have : (2 : Int32).toInt = 2 := (by decide)
        refine ok_ite _ (fun c44 => ?_) (fun c44 => ?_)
        · skip
          have ic44 := i_eq c44
          try clear hr42_p0
          have : (0 : Int32).toInt = 0 := (by decide)
          refine ok_some ?_
          show IM v
          have : (-1000001 : Int32).toInt = -1000001 := (by decide)
          exact hI_v
        · skip
          have ic44 : Int32.toInt r42 = 1 := one_of hr42_lo hr42_hi c44
          try replace hr42_p0 : (Int32.toInt 0 ≤ Int32.toInt a4 ∧ Int32.toInt a4 ≤ Int32.toInt 2) := orr hr42_p0 ic44
          have : (0 : Int32).toInt = 0 := (by decide)
          refine ok_bind (k_X8_isMissing v hI_v a1 (by omega)) (fun r46 hr46 => ?_)
          replace hr46 : (0 : Int) ≤ Int32.toInt r46 ∧ Int32.toInt r46 ≤ (1 : Int) := hr46
          obtain ⟨hr46_lo, hr46_hi⟩ := hr46
          refine ok_ite _ (fun c48 => ?_) (fun c48 => ?_)
          · skip
            have ic48 := i_eq c48
            have : (0 : Int32).toInt = 0 := (by decide)
            refine ok_bind (k_X8_isPart v hI_v a1 a2 a3 (by omega)) (fun r50 hr50 => ?_)
            replace hr50 : (0 : Int) ≤ Int32.toInt r50 ∧ Int32.toInt r50 ≤ (1 : Int) ∧ (Int32.toInt r50 = 0 ∨ (0 ≤ Int32.toInt a2 ∧ 0 ≤ Int32.toInt a3 ∧ Int32.toInt a2 + Int32.toInt a3 ≤ 40)) := hr50
            obtain ⟨hr50_lo, hr50_hi, hr50_p0⟩ := hr50
            refine ok_ite _ (fun c52 => ?_) (fun c52 => ?_)
            · skip
              have ic52 := i_eq c52
              try clear hr50_p0
              have : (0 : Int32).toInt = 0 := (by decide)
              refine ok_kb2 (k_X8_found v hI_v 2 ) (fun r54 v55 hr54 => ?_)
              replace hr54 : IM v55 := hr54
              have hI_v55 := hr54
              clear hr54
              have : ((v55 36 0 3).toInt = 0 ∧ (v55 36 0 4).toInt = 0) ∨ (0 < (v55 36 0 3).toInt ∧ 0 < (v55 36 0 4).toInt) := hI_v55.2.1
              refine ok_some ?_
              show IM v55
              exact hI_v55
            · skip
              have ic52 : Int32.toInt r50 = 1 := one_of hr50_lo hr50_hi c52
              try replace hr50_p0 : (0 ≤ Int32.toInt a2 ∧ 0 ≤ Int32.toInt a3 ∧ Int32.toInt a2 + Int32.toInt a3 ≤ 40) := orr hr50_p0 ic52
              have : (0 : Int32).toInt = 0 := (by decide)
              have : (0 : Int32).toInt = 0 := (by decide)
              exact loop76 2000 v 0 0 hI_v (by omega) (by omega) (by omega) (by omega) (by omega) (by omega) (by omega) (by omega)
          · skip
            have ic48 : Int32.toInt r46 = 1 := one_of hr46_lo hr46_hi c48
            have : (0 : Int32).toInt = 0 := (by decide)
            refine ok_kb2 (k_X8_found v hI_v 1 ) (fun r57 v58 hr57 => ?_)
            replace hr57 : IM v58 := hr57
            have hI_v58 := hr57
            clear hr57
            have : ((v58 36 0 3).toInt = 0 ∧ (v58 36 0 4).toInt = 0) ∨ (0 < (v58 36 0 3).toInt ∧ 0 < (v58 36 0 4).toInt) := hI_v58.2.1
            refine ok_some ?_
            show IM v58
            exact hI_v58
set_option maxHeartbeats 4000000 in
theorem k_X8_takesSo (v : Mm) (hI_v : IM v) (a1 : Int32) (a2 : Int32) (a3 : Int32) (h_a2 : (0 : Int) ≤ a2.toInt ∧ a2.toInt ≤ (5 : Int)) (hx0 : 0 ≤ Int32.toInt a3) (hx1 : Int32.toInt a3 + Int32.toInt (v 36 0 3) ≤ 320) : ok (g_X8_takesSo v a1 a2 a3) (fun z => (0 : Int) ≤ Int32.toInt z ∧ Int32.toInt z ≤ (1 : Int)) := by
  have : ((v 36 0 3).toInt = 0 ∧ (v 36 0 4).toInt = 0) ∨ (0 < (v 36 0 3).toInt ∧ 0 < (v 36 0 4).toInt) := hI_v.2.1
  have : (0 : Int) ≤ (v 36 0 3).toInt ∧ (v 36 0 3).toInt ≤ (6 : Int) := hI_v.1 36 0 3
  have loop6 : ∀ (n6 : Nat) (x4_6 : Int32) (x5_6 : Int32), ((0 : Int) ≤ Int32.toInt x4_6 ∧ Int32.toInt x4_6 ≤ (1 : Int)) → ((0 : Int) ≤ Int32.toInt x5_6 ∧ Int32.toInt x5_6 ≤ (6 : Int)) → (6 - Int32.toInt x5_6 < (n6 : Int)) → ok (g_X8_takesSo_L6  v a1 a2 a3 n6 x4_6 x5_6) (fun z => (0 : Int) ≤ Int32.toInt z ∧ Int32.toInt z ≤ (1 : Int)) := by
    intro n6
    induction n6 with
    | zero =>
      intro x4_6 x5_6 hv0_6 hv1_6 hm6
      exfalso
      omega
    | succ n6 ih6 =>
      intro x4_6 x5_6 hv0_6 hv1_6 hm6
      show ok (b_X8_takesSo_L6  (g_X8_takesSo_L6  v a1 a2 a3 n6) v a1 a2 a3 x4_6 x5_6) _
      unfold b_X8_takesSo_L6
      try rw [tc_3]
      try rw [tc_5]
      refine ok_ite _ (fun c1 => ?_) (fun c1 => ?_)
      · skip
        have ic1 := i_le c1
        have : (0 : Int) ≤ (v 36 0 3).toInt ∧ (v 36 0 3).toInt ≤ (6 : Int) := hI_v.1 36 0 3
        refine ok_some ?_
        show (0 : Int) ≤ Int32.toInt x4_6 ∧ Int32.toInt x4_6 ≤ (1 : Int)
        omega
      · skip
        have ic1 := i_nle c1
        have : (0 : Int) ≤ (v 36 0 3).toInt ∧ (v 36 0 3).toInt ≤ (6 : Int) := hI_v.1 36 0 3
        refine ok_ite _ (fun c2 => ?_) (fun c2 => ?_)
        · skip
          have ic2 := i_eq c2
          have : (0 : Int32).toInt = 0 := (by decide)
          have : (0 : Int32).toInt = 0 := (by decide)
          have : (1 : Int32).toInt = 1 := (by decide)
          have := i_bd x5_6
          (first | have := sp_addx x5_6 (1 : Int32) (by omega) | obtain ⟨k1, hk1⟩ := sp_add x5_6 (1 : Int32))
          exact ih6 0 (x5_6 + 1) (by omega) (by omega) (by omega)
        · skip
          have ic2 := i_ne c2
          have : (0 : Int32).toInt = 0 := (by decide)
          refine ok_bind (k_X8_takesBy v hI_v a1 x5_6 a2 (v 36 0 5) (by omega) (by omega)) (fun r4 hr4 => ?_)
          replace hr4 : (0 : Int) ≤ Int32.toInt r4 ∧ Int32.toInt r4 ≤ (1 : Int) := hr4
          obtain ⟨hr4_lo, hr4_hi⟩ := hr4
          refine ok_ite _ (fun c6 => ?_) (fun c6 => ?_)
          · skip
            have ic6 := i_eq c6
            have : (0 : Int32).toInt = 0 := (by decide)
            refine ok_grd _ ?_ ?_
            · skip
              have := i_bd a3
              have := i_bd x5_6
              (first | have := sp_addx a3 x5_6 (by omega) | obtain ⟨k2, hk2⟩ := sp_add a3 x5_6)
              exact gr (by omega) (by omega)
            refine ok_ite _ (fun c8 => ?_) (fun c8 => ?_)
            · skip
              have ic8 := i_eq c8
              have : (0 : Int32).toInt = 0 := (by decide)
              have : (1 : Int32).toInt = 1 := (by decide)
              have := i_bd x5_6
              (first | have := sp_addx x5_6 (1 : Int32) (by omega) | obtain ⟨k3, hk3⟩ := sp_add x5_6 (1 : Int32))
              exact ih6 1 (x5_6 + 1) (by omega) (by omega) (by omega)
            · skip
              have ic8 := i_ne c8
              have : (0 : Int32).toInt = 0 := (by decide)
              have : (0 : Int32).toInt = 0 := (by decide)
              have : (1 : Int32).toInt = 1 := (by decide)
              have := i_bd x5_6
              (first | have := sp_addx x5_6 (1 : Int32) (by omega) | obtain ⟨k4, hk4⟩ := sp_add x5_6 (1 : Int32))
              exact ih6 0 (x5_6 + 1) (by omega) (by omega) (by omega)
          · skip
            have ic6 : Int32.toInt r4 = 1 := one_of hr4_lo hr4_hi c6
            have : (0 : Int32).toInt = 0 := (by decide)
            refine ok_grd _ ?_ ?_
            · skip
              have := i_bd a3
              have := i_bd x5_6
              (first | have := sp_addx a3 x5_6 (by omega) | obtain ⟨k5, hk5⟩ := sp_add a3 x5_6)
              exact gr (by omega) (by omega)
            refine ok_ite _ (fun c10 => ?_) (fun c10 => ?_)
            · skip
              have ic10 := i_eq c10
              have : (1 : Int32).toInt = 1 := (by decide)
              have : (1 : Int32).toInt = 1 := (by decide)
              have := i_bd x5_6
              (first | have := sp_addx x5_6 (1 : Int32) (by omega) | obtain ⟨k6, hk6⟩ := sp_add x5_6 (1 : Int32))
              exact ih6 1 (x5_6 + 1) (by omega) (by omega) (by omega)
            · skip
              have ic10 := i_ne c10
              have : (1 : Int32).toInt = 1 := (by decide)
              have : (0 : Int32).toInt = 0 := (by decide)
              have : (1 : Int32).toInt = 1 := (by decide)
              have := i_bd x5_6
              (first | have := sp_addx x5_6 (1 : Int32) (by omega) | obtain ⟨k7, hk7⟩ := sp_add x5_6 (1 : Int32))
              exact ih6 0 (x5_6 + 1) (by omega) (by omega) (by omega)
  unfold g_X8_takesSo
  try rw [tc_3]
  try rw [tc_5]
  have : (0 : Int) ≤ (v 36 0 3).toInt ∧ (v 36 0 3).toInt ≤ (6 : Int) := hI_v.1 36 0 3
  have : (1 : Int32).toInt = 1 := (by decide)
  have : (0 : Int32).toInt = 0 := (by decide)
  exact loop6 2000 1 0 (by omega) (by omega) (by omega)
set_option maxHeartbeats 4000000 in
theorem k_X8_fits (v : Mm) (hI_v : IM v) (a1 : Int32) (a2 : Int32) (a3 : Int32) (a4 : Int32) : ok (g_X8_fits v a1 a2 a3 a4) (fun z => IM z.2) := by
  have : ((v 36 0 3).toInt = 0 ∧ (v 36 0 4).toInt = 0) ∨ (0 < (v 36 0 3).toInt ∧ 0 < (v 36 0 4).toInt) := hI_v.2.1
  have loop135 : ∀ (n135 : Nat) (w135 : Mm) (x5_135 : Int32) (x6_135 : Int32) (x7_135 : Int32), (IM w135) → ((0 : Int) ≤ Int32.toInt x7_135 ∧ Int32.toInt x7_135 ≤ (6 : Int)) → (0 ≤ Int32.toInt a1 ∧ Int32.toInt a1 ≤ 3) → (0 < Int32.toInt (w135 36 0 3)) → (0 ≤ Int32.toInt x5_135) → (Int32.toInt x5_135 + Int32.toInt (w135 36 0 3) ≤ 320) → (6 - Int32.toInt x7_135 < (n135 : Int)) → ok (g_X8_fits_L135  a1 a2 a3 a4 n135 w135 x5_135 x6_135 x7_135) (fun z => IM z.2) := by
    intro n135
    induction n135 with
    | zero =>
      intro w135 x5_135 x6_135 x7_135 hI_w135 hv0_135 hv1_135 hv2_135 hv3_135 hv4_135 hm135
      exfalso
      have : (0 : Int) ≤ (w135 36 0 3).toInt ∧ (w135 36 0 3).toInt ≤ (6 : Int) := hI_w135.1 36 0 3
      omega
    | succ n135 ih135 =>
      intro w135 x5_135 x6_135 x7_135 hI_w135 hv0_135 hv1_135 hv2_135 hv3_135 hv4_135 hm135
      show ok (b_X8_fits_L135  (g_X8_fits_L135  a1 a2 a3 a4 n135) a1 a2 a3 a4 w135 x5_135 x6_135 x7_135) _
      unfold b_X8_fits_L135
      try rw [tc_3]
      try rw [tc_5]
      have : ((w135 36 0 3).toInt = 0 ∧ (w135 36 0 4).toInt = 0) ∨ (0 < (w135 36 0 3).toInt ∧ 0 < (w135 36 0 4).toInt) := hI_w135.2.1
      have : (0 : Int) ≤ (w135 36 0 3).toInt ∧ (w135 36 0 3).toInt ≤ (6 : Int) := hI_w135.1 36 0 3
      refine ok_ite _ (fun c1 => ?_) (fun c1 => ?_)
      · skip
        have ic1 := i_le c1
        have : (0 : Int) ≤ (w135 36 0 3).toInt ∧ (w135 36 0 3).toInt ≤ (6 : Int) := hI_w135.1 36 0 3
        refine ok_kb2 (k_X8_well w135 hI_w135 x6_135 ) (fun r3 v4 hr3 => ?_)
        replace hr3 : IM v4 := hr3
        have hI_v4 := hr3
        clear hr3
        have : ((v4 36 0 3).toInt = 0 ∧ (v4 36 0 4).toInt = 0) ∨ (0 < (v4 36 0 3).toInt ∧ 0 < (v4 36 0 4).toInt) := hI_v4.2.1
        refine ok_some ?_
        show IM v4
        exact hI_v4
      · skip
        have ic1 := i_nle c1
        have : (0 : Int) ≤ (w135 36 0 3).toInt ∧ (w135 36 0 3).toInt ≤ (6 : Int) := hI_w135.1 36 0 3
        refine ok_ite _ (fun c5 => ?_) (fun c5 => ?_)
        · skip
          have ic5 := i_eq c5
          have : (1 : Int32).toInt = 1 := (by decide)
          refine ok_bind (k_X8_kindIn w135 hI_w135 a1 (by omega)) (fun r7 hr7 => ?_)
          clear hr7
          refine ok_bind (k_X8_takesSo w135 hI_w135 r7 x7_135 x5_135 (by omega) (by omega) (by omega)) (fun r10 hr10 => ?_)
          replace hr10 : (0 : Int) ≤ Int32.toInt r10 ∧ Int32.toInt r10 ≤ (1 : Int) := hr10
          obtain ⟨hr10_lo, hr10_hi⟩ := hr10
          refine ok_ite _ (fun c12 => ?_) (fun c12 => ?_)
          · skip
            have ic12 := i_eq c12
            have : (0 : Int32).toInt = 0 := (by decide)
            have : (0 : Int32).toInt = 0 := (by decide)
            (try have := sp_or64 (a := x6_135) (b := (0 : Int32)) (by omega) (by omega) (by omega) (by omega))
            (try have := sp_or16 (a := x6_135) (b := (0 : Int32)) (by omega) (by omega) (by omega) (by omega))
            have : (1 : Int32).toInt = 1 := (by decide)
            have := i_bd x7_135
            (first | have := sp_addx x7_135 (1 : Int32) (by omega) | obtain ⟨k1, hk1⟩ := sp_add x7_135 (1 : Int32))
            exact ih135 w135 x5_135 (x6_135 ||| 0) (x7_135 + 1) hI_w135 (by omega) (by omega) (by omega) (by omega) (by omega) (by omega)
          · skip
            have ic12 : Int32.toInt r10 = 1 := one_of hr10_lo hr10_hi c12
            have : (0 : Int32).toInt = 0 := (by decide)
            refine ok_let (fun x13 ex13 => ?_)
            have : (1 : Int32).toInt = 1 := (by decide)
            (try have := sp_shl4 (b := x7_135) (by omega) (by omega))
            (try have := sp_shl5 (b := x7_135) (by omega) (by omega))
            (try have := sp_shl7 (b := x7_135) (by omega) (by omega))
            (try have := sp_shl (a := (1 : Int32)) (b := x7_135) (by omega) (by omega) (by omega) (by omega))
            (try have := sp_or64 (a := x6_135) (b := ((1 : Int32) <<< (x7_135 &&& 31))) (by omega) (by omega) (by omega) (by omega))
            (try have := sp_or16 (a := x6_135) (b := ((1 : Int32) <<< (x7_135 &&& 31))) (by omega) (by omega) (by omega) (by omega))
            have := i_eq ex13
            have : (1 : Int32).toInt = 1 := (by decide)
            have := i_bd x7_135
            (first | have := sp_addx x7_135 (1 : Int32) (by omega) | obtain ⟨k2, hk2⟩ := sp_add x7_135 (1 : Int32))
            exact ih135 w135 x5_135 x13 (x7_135 + 1) hI_w135 (by omega) (by omega) (by omega) (by omega) (by omega) (by omega)
        · skip
          have ic5 := i_ne c5
          have : (1 : Int32).toInt = 1 := (by decide)
          refine ok_kb2 (k_X8_well w135 hI_w135 x6_135 ) (fun r15 v16 hr15 => ?_)
          replace hr15 : IM v16 := hr15
          have hI_v16 := hr15
          clear hr15
          have : ((v16 36 0 3).toInt = 0 ∧ (v16 36 0 4).toInt = 0) ∨ (0 < (v16 36 0 3).toInt ∧ 0 < (v16 36 0 4).toInt) := hI_v16.2.1
          refine ok_some ?_
          show IM v16
          exact hI_v16
  have loop77 : ∀ (n77 : Nat) (w77 : Mm) (x5_77 : Int32) (x6_77 : Int32) (x7_77 : Int32), (IM w77) → ((0 : Int) ≤ Int32.toInt x7_77 ∧ Int32.toInt x7_77 ≤ (6 : Int)) → (0 ≤ Int32.toInt a1 ∧ Int32.toInt a1 ≤ 3) → (0 < Int32.toInt (w77 36 0 3)) → (0 ≤ Int32.toInt x5_77) → (Int32.toInt x5_77 + Int32.toInt (w77 36 0 3) ≤ 320) → (6 - Int32.toInt x7_77 < (n77 : Int)) → ok (g_X8_fits_L77  a1 a2 a3 a4 n77 w77 x5_77 x6_77 x7_77) (fun z => IM z.2) := by
    intro n77
    induction n77 with
    | zero =>
      intro w77 x5_77 x6_77 x7_77 hI_w77 hv0_77 hv1_77 hv2_77 hv3_77 hv4_77 hm77
      exfalso
      have : (0 : Int) ≤ (w77 36 0 3).toInt ∧ (w77 36 0 3).toInt ≤ (6 : Int) := hI_w77.1 36 0 3
      omega
    | succ n77 ih77 =>
      intro w77 x5_77 x6_77 x7_77 hI_w77 hv0_77 hv1_77 hv2_77 hv3_77 hv4_77 hm77
      show ok (b_X8_fits_L77  (g_X8_fits_L77  a1 a2 a3 a4 n77) a1 a2 a3 a4 w77 x5_77 x6_77 x7_77) _
      unfold b_X8_fits_L77
      try rw [tc_3]
      try rw [tc_5]
      have : ((w77 36 0 3).toInt = 0 ∧ (w77 36 0 4).toInt = 0) ∨ (0 < (w77 36 0 3).toInt ∧ 0 < (w77 36 0 4).toInt) := hI_w77.2.1
      have : (0 : Int) ≤ (w77 36 0 3).toInt ∧ (w77 36 0 3).toInt ≤ (6 : Int) := hI_w77.1 36 0 3
      refine ok_ite _ (fun c17 => ?_) (fun c17 => ?_)
      · skip
        have ic17 := i_le c17
        have : (6 : Int32).toInt = 6 := (by decide)
        have : (0 : Int32).toInt = 0 := (by decide)
        exact loop135 2000 w77 x5_77 x6_77 0 hI_w77 (by omega) (by omega) (by omega) (by omega) (by omega) (by omega)
      · skip
        have ic17 := i_nle c17
        have : (6 : Int32).toInt = 6 := (by decide)
        refine ok_ite _ (fun c18 => ?_) (fun c18 => ?_)
        · skip
          have ic18 := i_eq c18
          have : (0 : Int32).toInt = 0 := (by decide)
          refine ok_bind (k_X8_secretOf_36 w77 hI_w77 (w77 36 0 5) (by have : (0 : Int) ≤ (w77 36 0 5).toInt ∧ (w77 36 0 5).toInt ≤ (999 : Int) := hI_w77.1 36 0 5; omega) (by omega)) (fun r20 hr20 => ?_)
          replace hr20 : (0 : Int) ≤ Int32.toInt r20 ∧ Int32.toInt r20 ≤ (5 : Int) := hr20
          obtain ⟨hr20_lo, hr20_hi⟩ := hr20
          refine ok_bind (k_X8_takesSo w77 hI_w77 x7_77 r20 x5_77 (by omega) (by omega) (by omega)) (fun r23 hr23 => ?_)
          replace hr23 : (0 : Int) ≤ Int32.toInt r23 ∧ Int32.toInt r23 ≤ (1 : Int) := hr23
          obtain ⟨hr23_lo, hr23_hi⟩ := hr23
          refine ok_ite _ (fun c25 => ?_) (fun c25 => ?_)
          · skip
            have ic25 := i_eq c25
            have : (0 : Int32).toInt = 0 := (by decide)
            have : (0 : Int32).toInt = 0 := (by decide)
            (try have := sp_or64 (a := x6_77) (b := (0 : Int32)) (by omega) (by omega) (by omega) (by omega))
            (try have := sp_or16 (a := x6_77) (b := (0 : Int32)) (by omega) (by omega) (by omega) (by omega))
            have : (1 : Int32).toInt = 1 := (by decide)
            have := i_bd x7_77
            (first | have := sp_addx x7_77 (1 : Int32) (by omega) | obtain ⟨k3, hk3⟩ := sp_add x7_77 (1 : Int32))
            exact ih77 w77 x5_77 (x6_77 ||| 0) (x7_77 + 1) hI_w77 (by omega) (by omega) (by omega) (by omega) (by omega) (by omega)
          · skip
            have ic25 : Int32.toInt r23 = 1 := one_of hr23_lo hr23_hi c25
            have : (0 : Int32).toInt = 0 := (by decide)
            refine ok_let (fun x26 ex26 => ?_)
            have : (1 : Int32).toInt = 1 := (by decide)
            (try have := sp_shl4 (b := x7_77) (by omega) (by omega))
            (try have := sp_shl5 (b := x7_77) (by omega) (by omega))
            (try have := sp_shl7 (b := x7_77) (by omega) (by omega))
            (try have := sp_shl (a := (1 : Int32)) (b := x7_77) (by omega) (by omega) (by omega) (by omega))
            (try have := sp_or64 (a := x6_77) (b := ((1 : Int32) <<< (x7_77 &&& 31))) (by omega) (by omega) (by omega) (by omega))
            (try have := sp_or16 (a := x6_77) (b := ((1 : Int32) <<< (x7_77 &&& 31))) (by omega) (by omega) (by omega) (by omega))
            have := i_eq ex26
            have : (1 : Int32).toInt = 1 := (by decide)
            have := i_bd x7_77
            (first | have := sp_addx x7_77 (1 : Int32) (by omega) | obtain ⟨k4, hk4⟩ := sp_add x7_77 (1 : Int32))
            exact ih77 w77 x5_77 x26 (x7_77 + 1) hI_w77 (by omega) (by omega) (by omega) (by omega) (by omega) (by omega)
        · skip
          have ic18 := i_ne c18
          have : (0 : Int32).toInt = 0 := (by decide)
          have : (0 : Int32).toInt = 0 := (by decide)
          exact loop135 2000 w77 x5_77 x6_77 0 hI_w77 (by omega) (by omega) (by omega) (by omega) (by omega) (by omega)
  unfold g_X8_fits
  try rw [tc_3]
  try rw [tc_5]
  refine ok_bind (k_X8_isGuard v hI_v a1 ) (fun r28 hr28 => ?_)
  replace hr28 : (0 : Int) ≤ Int32.toInt r28 ∧ Int32.toInt r28 ≤ (1 : Int) ∧ ((Int32.toInt r28 = 0 ∨ (0 ≤ Int32.toInt a1 ∧ Int32.toInt a1 ≤ 3 ∧ 0 < Int32.toInt (v 36 0 4)))) := hr28
  obtain ⟨hr28_lo, hr28_hi, hr28_p0⟩ := hr28
  have : (0 : Int) ≤ (v 36 0 4).toInt ∧ (v 36 0 4).toInt ≤ (4 : Int) := hI_v.1 36 0 4
  refine ok_ite _ (fun c30 => ?_) (fun c30 => ?_)
  · skip
    have ic30 := i_eq c30
    try clear hr28_p0
    have : (0 : Int32).toInt = 0 := (by decide)
    refine ok_some ?_
    show IM v
    have : (-1000001 : Int32).toInt = -1000001 := (by decide)
    exact hI_v
  · skip
    have ic30 : Int32.toInt r28 = 1 := one_of hr28_lo hr28_hi c30
    try replace hr28_p0 : (0 ≤ Int32.toInt a1 ∧ Int32.toInt a1 ≤ 3 ∧ 0 < Int32.toInt (v 36 0 4)) := orr hr28_p0 ic30
    have : (0 : Int32).toInt = 0 := (by decide)
    refine ok_bind (k_X8_isRow v hI_v a2 ) (fun r32 hr32 => ?_)
    replace hr32 : (0 : Int) ≤ Int32.toInt r32 ∧ Int32.toInt r32 ≤ (1 : Int) ∧ ((Int32.toInt r32 = 0 ∨ (0 ≤ Int32.toInt a2 ∧ Int32.toInt a2 ≤ 7))) := hr32
    obtain ⟨hr32_lo, hr32_hi, hr32_p0⟩ := hr32
    refine ok_ite _ (fun c34 => ?_) (fun c34 => ?_)
    · skip
      have ic34 := i_eq c34
      try clear hr32_p0
      have : (0 : Int32).toInt = 0 := (by decide)
      refine ok_some ?_
      show IM v
      have : (-1000001 : Int32).toInt = -1000001 := (by decide)
      exact hI_v
    · skip
      have ic34 : Int32.toInt r32 = 1 := one_of hr32_lo hr32_hi c34
      try replace hr32_p0 : (0 ≤ Int32.toInt a2 ∧ Int32.toInt a2 ≤ 7) := orr hr32_p0 ic34
      have : (0 : Int32).toInt = 0 := (by decide)
      refine ok_bind (k_X8_in v hI_v a4 0 1 ) (fun r36 hr36 => ?_)
      replace hr36 : (0 : Int) ≤ Int32.toInt r36 ∧ Int32.toInt r36 ≤ (1 : Int) ∧ (Int32.toInt r36 = 0 ∨ (Int32.toInt 0 ≤ Int32.toInt a4 ∧ Int32.toInt a4 ≤ Int32.toInt 1)) := hr36
      obtain ⟨hr36_lo, hr36_hi, hr36_p0⟩ := hr36
      have : (0 : Int32).toInt = 0 := (by decide)
      have : (1 : Int32).toInt = 1 := (by decide)
      refine ok_ite _ (fun c38 => ?_) (fun c38 => ?_)
      · skip
        have ic38 := i_eq c38
        try clear hr36_p0
        have : (0 : Int32).toInt = 0 := (by decide)
        refine ok_some ?_
        show IM v
        have : (-1000001 : Int32).toInt = -1000001 := (by decide)
        exact hI_v
      · skip
        have ic38 : Int32.toInt r36 = 1 := one_of hr36_lo hr36_hi c38
        try replace hr36_p0 : (Int32.toInt 0 ≤ Int32.toInt a4 ∧ Int32.toInt a4 ≤ Int32.toInt 1) := orr hr36_p0 ic38
        have : (0 : Int32).toInt = 0 := (by decide)
        refine ok_bind (k_X8_isMissing v hI_v a2 (by omega)) (fun r40 hr40 => ?_)
        replace hr40 : (0 : Int) ≤ Int32.toInt r40 ∧ Int32.toInt r40 ≤ (1 : Int) := hr40
        obtain ⟨hr40_lo, hr40_hi⟩ := hr40
        refine ok_ite _ (fun c42 => ?_) (fun c42 => ?_)
        · skip
          have ic42 := i_eq c42
          have : (0 : Int32).toInt = 0 := (by decide)
          refine ok_bind (k_X8_isPart v hI_v a2 a3 (v 36 0 3) (by omega)) (fun r44 hr44 => ?_)
          replace hr44 : (0 : Int) ≤ Int32.toInt r44 ∧ Int32.toInt r44 ≤ (1 : Int) ∧ (Int32.toInt r44 = 0 ∨ (0 ≤ Int32.toInt a3 ∧ 0 ≤ Int32.toInt (v 36 0 3) ∧ Int32.toInt a3 + Int32.toInt (v 36 0 3) ≤ 40)) := hr44
          obtain ⟨hr44_lo, hr44_hi, hr44_p0⟩ := hr44
          have : (0 : Int) ≤ (v 36 0 3).toInt ∧ (v 36 0 3).toInt ≤ (6 : Int) := hI_v.1 36 0 3
          have : (0 : Int) ≤ (v 36 0 3).toInt ∧ (v 36 0 3).toInt ≤ (6 : Int) := hI_v.1 36 0 3
          refine ok_ite _ (fun c46 => ?_) (fun c46 => ?_)
          · skip
            have ic46 := i_eq c46
            try clear hr44_p0
            have : (0 : Int32).toInt = 0 := (by decide)
            refine ok_kb2 (k_X8_found v hI_v 2 ) (fun r48 v49 hr48 => ?_)
            replace hr48 : IM v49 := hr48
            have hI_v49 := hr48
            clear hr48
            have : ((v49 36 0 3).toInt = 0 ∧ (v49 36 0 4).toInt = 0) ∨ (0 < (v49 36 0 3).toInt ∧ 0 < (v49 36 0 4).toInt) := hI_v49.2.1
            refine ok_some ?_
            show IM v49
            exact hI_v49
          · skip
            have ic46 : Int32.toInt r44 = 1 := one_of hr44_lo hr44_hi c46
            try replace hr44_p0 : (0 ≤ Int32.toInt a3 ∧ 0 ≤ Int32.toInt (v 36 0 3) ∧ Int32.toInt a3 + Int32.toInt (v 36 0 3) ≤ 40) := orr hr44_p0 ic46
            have : (0 : Int32).toInt = 0 := (by decide)
            have : (40 : Int32).toInt = 40 := (by decide)
            (first | have := sp_cmulx (40 : Int32) a2 40 (by decide) (by omega) | obtain ⟨k5, hk5⟩ := sp_cmul (40 : Int32) a2 40 (by decide))
            have := i_bd a3
            (first | have := sp_addx ((40 : Int32) * a2) a3 (by omega) | obtain ⟨k6, hk6⟩ := sp_add ((40 : Int32) * a2) a3)
            have : (0 : Int32).toInt = 0 := (by decide)
            have : (1 : Int32).toInt = 1 := (by decide)
            exact loop77 2000 v (((40 : Int32) * a2) + a3) 0 1 hI_v (by omega) (by omega) (by omega) (by omega) (by omega) (by omega)
        · skip
          have ic42 : Int32.toInt r40 = 1 := one_of hr40_lo hr40_hi c42
          have : (0 : Int32).toInt = 0 := (by decide)
          refine ok_kb2 (k_X8_found v hI_v 1 ) (fun r51 v52 hr51 => ?_)
          replace hr51 : IM v52 := hr51
          have hI_v52 := hr51
          clear hr51
          have : ((v52 36 0 3).toInt = 0 ∧ (v52 36 0 4).toInt = 0) ∨ (0 < (v52 36 0 3).toInt ∧ 0 < (v52 36 0 4).toInt) := hI_v52.2.1
          refine ok_some ?_
          show IM v52
          exact hI_v52
