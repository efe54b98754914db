set_option maxHeartbeats 4000000 in
theorem k_X8_agreeing (v : Mm) (hI_v : IM v)  : ok (g_X8_agreeing v ) (fun z => (0 : Int) ≤ Int32.toInt z ∧ Int32.toInt z ≤ (63 : Int)) := by
  have : ((v 36 0 3).toInt = 0 ∧ (v 36 0 4).toInt = 0) ∨ (0 < (v 36 0 3).toInt ∧ 0 < (v 36 0 4).toInt) := hI_v.2.1
  have loop4 : ∀ (n4 : Nat) (x1_4 : Int32) (x2_4 : Int32), ((0 : Int) ≤ Int32.toInt x1_4 ∧ Int32.toInt x1_4 ≤ (63 : Int)) → ((0 : Int) ≤ Int32.toInt x2_4 ∧ Int32.toInt x2_4 ≤ (6 : Int)) → (6 - Int32.toInt x2_4 < (n4 : Int)) → ok (g_X8_agreeing_L4  v n4 x1_4 x2_4) (fun z => (0 : Int) ≤ Int32.toInt z ∧ Int32.toInt z ≤ (63 : Int)) := by
    intro n4
    induction n4 with
    | zero =>
      intro x1_4 x2_4 hv0_4 hv1_4 hm4
      exfalso
      omega
    | succ n4 ih4 =>
      intro x1_4 x2_4 hv0_4 hv1_4 hm4
      show ok (b_X8_agreeing_L4  (g_X8_agreeing_L4  v n4) v x1_4 x2_4) _
      unfold b_X8_agreeing_L4
      try rw [tc_3]
      try rw [tc_5]
      try rw [tc_7]
      have loop19 : ∀ (n19 : Nat) (x1_19 : Int32) (x2_19 : Int32) (x3_19 : Int32) (x4_19 : Int32), ((0 : Int) ≤ Int32.toInt x1_19 ∧ Int32.toInt x1_19 ≤ (63 : Int)) → ((0 : Int) ≤ Int32.toInt x2_19 ∧ Int32.toInt x2_19 ≤ (5 : Int)) → ((0 : Int) ≤ Int32.toInt x4_19 ∧ Int32.toInt x4_19 ≤ (9 : Int)) → (6 - Int32.toInt x2_19 < (n4 : Int) + 1) → (9 - Int32.toInt x4_19 < (n19 : Int)) → ok (g_X8_agreeing_L19 (g_X8_agreeing_L4  v n4) v n19 x1_19 x2_19 x3_19 x4_19) (fun z => (0 : Int) ≤ Int32.toInt z ∧ Int32.toInt z ≤ (63 : Int)) := by
        intro n19
        induction n19 with
        | zero =>
          intro x1_19 x2_19 x3_19 x4_19 hv0_19 hv1_19 hv2_19 hv3_19 hm19
          exfalso
          omega
        | succ n19 ih19 =>
          intro x1_19 x2_19 x3_19 x4_19 hv0_19 hv1_19 hv2_19 hv3_19 hm19
          show ok (b_X8_agreeing_L19 (g_X8_agreeing_L4  v n4) (g_X8_agreeing_L19 (g_X8_agreeing_L4  v n4) v n19) v x1_19 x2_19 x3_19 x4_19) _
          unfold b_X8_agreeing_L19
          try rw [tc_3]
          try rw [tc_5]
          try rw [tc_7]
          refine ok_ite _ (fun c1 => ?_) (fun c1 => ?_)
          · skip
            have ic1 := i_le c1
            have : (0 : Int) ≤ (v 36 0 7).toInt ∧ (v 36 0 7).toInt ≤ (9 : Int) := hI_v.1 36 0 7
            refine ok_ite _ (fun c2 => ?_) (fun c2 => ?_)
            · skip
              have ic2 := i_eq c2
              have : (0 : Int32).toInt = 0 := (by decide)
              have : (0 : Int32).toInt = 0 := (by decide)
              (try have := sp_or64 (a := x1_19) (b := (0 : Int32)) (by omega) (by omega) (by omega) (by omega))
              (try have := sp_or16 (a := x1_19) (b := (0 : Int32)) (by omega) (by omega) (by omega) (by omega))
              have : (1 : Int32).toInt = 1 := (by decide)
              have := i_bd x2_19
              (first | have := sp_addx x2_19 (1 : Int32) (by omega) | obtain ⟨k1, hk1⟩ := sp_add x2_19 (1 : Int32))
              exact ih4 (x1_19 ||| 0) (x2_19 + 1) (by omega) (by omega) (by omega)
            · skip
              have ic2 := i_ne c2
              have : (0 : Int32).toInt = 0 := (by decide)
              refine ok_let (fun x3 ex3 => ?_)
              have : (1 : Int32).toInt = 1 := (by decide)
              (try have := sp_shl4 (b := x2_19) (by omega) (by omega))
              (try have := sp_shl5 (b := x2_19) (by omega) (by omega))
              (try have := sp_shl7 (b := x2_19) (by omega) (by omega))
              (try have := sp_shl (a := (1 : Int32)) (b := x2_19) (by omega) (by omega) (by omega) (by omega))
              (try have := sp_or64 (a := x1_19) (b := ((1 : Int32) <<< (x2_19 &&& 31))) (by omega) (by omega) (by omega) (by omega))
              (try have := sp_or16 (a := x1_19) (b := ((1 : Int32) <<< (x2_19 &&& 31))) (by omega) (by omega) (by omega) (by omega))
              have := i_eq ex3
              have : (1 : Int32).toInt = 1 := (by decide)
              have := i_bd x2_19
              (first | have := sp_addx x2_19 (1 : Int32) (by omega) | obtain ⟨k2, hk2⟩ := sp_add x2_19 (1 : Int32))
              exact ih4 x3 (x2_19 + 1) (by omega) (by omega) (by omega)
          · skip
            have ic1 := i_nle c1
            have : (0 : Int) ≤ (v 36 0 7).toInt ∧ (v 36 0 7).toInt ≤ (9 : Int) := hI_v.1 36 0 7
            refine ok_grd _ ?_ ?_
            · skip
              have : (38 : Int32).toInt = 38 := (by decide)
              have : (3 : Int32).toInt = 3 := (by decide)
              (first | have := sp_cmulx (3 : Int32) x4_19 3 (by decide) (by omega) | obtain ⟨k3, hk3⟩ := sp_cmul (3 : Int32) x4_19 3 (by decide))
              (first | have := sp_addx (38 : Int32) ((3 : Int32) * x4_19) (by omega) | obtain ⟨k4, hk4⟩ := sp_add (38 : Int32) ((3 : Int32) * x4_19))
              have : (1 : Int32).toInt = 1 := (by decide)
              (first | have := sp_addx ((38 : Int32) + ((3 : Int32) * x4_19)) (1 : Int32) (by omega) | obtain ⟨k5, hk5⟩ := sp_add ((38 : Int32) + ((3 : Int32) * x4_19)) (1 : Int32))
              exact gr (by omega) (by omega)
            refine ok_let (fun x5 ex5 => ?_)
            have : (38 : Int32).toInt = 38 := (by decide)
            have : (3 : Int32).toInt = 3 := (by decide)
            (first | have := sp_cmulx (3 : Int32) x4_19 3 (by decide) (by omega) | obtain ⟨k6, hk6⟩ := sp_cmul (3 : Int32) x4_19 3 (by decide))
            (first | have := sp_addx (38 : Int32) ((3 : Int32) * x4_19) (by omega) | obtain ⟨k7, hk7⟩ := sp_add (38 : Int32) ((3 : Int32) * x4_19))
            have : (1 : Int32).toInt = 1 := (by decide)
            (first | have := sp_addx ((38 : Int32) + ((3 : Int32) * x4_19)) (1 : Int32) (by omega) | obtain ⟨k8, hk8⟩ := sp_add ((38 : Int32) + ((3 : Int32) * x4_19)) (1 : Int32))
            (try have := gw_w hI_v.1 (e := (((38 : Int32) + ((3 : Int32) * x4_19)) + 1)) (by omega) (by omega) (by omega))
            (try have := gw_g hI_v.1 (e := (((38 : Int32) + ((3 : Int32) * x4_19)) + 1)) (by omega) (by omega) (by omega))
            have := i_bd (v 36 0 (Int32.toNatClampNeg (((38 : Int32) + ((3 : Int32) * x4_19)) + 1)))
            (first | have := sp_subx (v 36 0 (Int32.toNatClampNeg (((38 : Int32) + ((3 : Int32) * x4_19)) + 1))) (1 : Int32) (by omega) | obtain ⟨k9, hk9⟩ := sp_sub (v 36 0 (Int32.toNatClampNeg (((38 : Int32) + ((3 : Int32) * x4_19)) + 1))) (1 : Int32))
            have := i_eq ex5
            refine ok_ite _ (fun c6 => ?_) (fun c6 => ?_)
            · skip
              have ic6 := i_eq c6
              have : (0 : Int32).toInt = 0 := (by decide)
              have : (0 : Int32).toInt = 0 := (by decide)
              have : (1 : Int32).toInt = 1 := (by decide)
              have := i_bd x4_19
              (first | have := sp_addx x4_19 (1 : Int32) (by omega) | obtain ⟨k10, hk10⟩ := sp_add x4_19 (1 : Int32))
              exact ih19 x1_19 x2_19 0 (x4_19 + 1) (by omega) (by omega) (by omega) (by omega) (by omega)
            · skip
              have ic6 := i_ne c6
              have : (0 : Int32).toInt = 0 := (by decide)
              refine ok_ite _ (fun c7 => ?_) (fun c7 => ?_)
              · skip
                have ic7 := i_lt c7
                have : (0 : Int32).toInt = 0 := (by decide)
                have : (1 : Int32).toInt = 1 := (by decide)
                have := i_bd x4_19
                (first | have := sp_addx x4_19 (1 : Int32) (by omega) | obtain ⟨k11, hk11⟩ := sp_add x4_19 (1 : Int32))
                exact ih19 x1_19 x2_19 1 (x4_19 + 1) (by omega) (by omega) (by omega) (by omega) (by omega)
              · skip
                have ic7 := i_nlt c7
                have : (0 : Int32).toInt = 0 := (by decide)
                refine ok_bind (k_X8_kindIn v hI_v x5 (by omega)) (fun r9 hr9 => ?_)
                clear hr9
                refine ok_grd _ ?_ ?_
                · skip
                  have : (38 : Int32).toInt = 38 := (by decide)
                  have : (3 : Int32).toInt = 3 := (by decide)
                  (first | have := sp_cmulx (3 : Int32) x4_19 3 (by decide) (by omega) | obtain ⟨k12, hk12⟩ := sp_cmul (3 : Int32) x4_19 3 (by decide))
                  (first | have := sp_addx (38 : Int32) ((3 : Int32) * x4_19) (by omega) | obtain ⟨k13, hk13⟩ := sp_add (38 : Int32) ((3 : Int32) * x4_19))
                  exact gr (by omega) (by omega)
                refine ok_bind (k_X8_takesBy v hI_v r9 (v 36 0 (Int32.toNatClampNeg ((38 : Int32) + ((3 : Int32) * x4_19)))) x2_19 (v 36 0 5) (by have : (38 : Int32).toInt = 38 := (by decide); have : (3 : Int32).toInt = 3 := (by decide); (first | have := sp_cmulx (3 : Int32) x4_19 3 (by decide) (by omega) | obtain ⟨k14, hk14⟩ := sp_cmul (3 : Int32) x4_19 3 (by decide)); (first | have := sp_addx (38 : Int32) ((3 : Int32) * x4_19) (by omega) | obtain ⟨k15, hk15⟩ := sp_add (38 : Int32) ((3 : Int32) * x4_19)); (try have := gw_w hI_v.1 (e := ((38 : Int32) + ((3 : Int32) * x4_19))) (by omega) (by omega) (by omega)); (try have := gw_g hI_v.1 (e := ((38 : Int32) + ((3 : Int32) * x4_19))) (by omega) (by omega) (by omega)); omega) (by omega)) (fun r13 hr13 => ?_)
                replace hr13 : (0 : Int) ≤ Int32.toInt r13 ∧ Int32.toInt r13 ≤ (1 : Int) := hr13
                obtain ⟨hr13_lo, hr13_hi⟩ := hr13
                refine ok_grd _ ?_ ?_
                · skip
                  have : (38 : Int32).toInt = 38 := (by decide)
                  have : (3 : Int32).toInt = 3 := (by decide)
                  (first | have := sp_cmulx (3 : Int32) x4_19 3 (by decide) (by omega) | obtain ⟨k16, hk16⟩ := sp_cmul (3 : Int32) x4_19 3 (by decide))
                  (first | have := sp_addx (38 : Int32) ((3 : Int32) * x4_19) (by omega) | obtain ⟨k17, hk17⟩ := sp_add (38 : Int32) ((3 : Int32) * x4_19))
                  have : (2 : Int32).toInt = 2 := (by decide)
                  (first | have := sp_addx ((38 : Int32) + ((3 : Int32) * x4_19)) (2 : Int32) (by omega) | obtain ⟨k18, hk18⟩ := sp_add ((38 : Int32) + ((3 : Int32) * x4_19)) (2 : Int32))
                  exact gr (by omega) (by omega)
                refine ok_ite _ (fun c16 => ?_) (fun c16 => ?_)
                · skip
                  have ic16 := i_eq c16
                  have : (38 : Int32).toInt = 38 := (by decide)
                  have : (3 : Int32).toInt = 3 := (by decide)
                  (first | have := sp_cmulx (3 : Int32) x4_19 3 (by decide) (by omega) | obtain ⟨k19, hk19⟩ := sp_cmul (3 : Int32) x4_19 3 (by decide))
                  (first | have := sp_addx (38 : Int32) ((3 : Int32) * x4_19) (by omega) | obtain ⟨k20, hk20⟩ := sp_add (38 : Int32) ((3 : Int32) * x4_19))
                  have : (2 : Int32).toInt = 2 := (by decide)
                  (first | have := sp_addx ((38 : Int32) + ((3 : Int32) * x4_19)) (2 : Int32) (by omega) | obtain ⟨k21, hk21⟩ := sp_add ((38 : Int32) + ((3 : Int32) * x4_19)) (2 : Int32))
                  (try have := gw_w hI_v.1 (e := (((38 : Int32) + ((3 : Int32) * x4_19)) + 2)) (by omega) (by omega) (by omega))
                  (try have := gw_g hI_v.1 (e := (((38 : Int32) + ((3 : Int32) * x4_19)) + 2)) (by omega) (by omega) (by omega))
                  have : (1 : Int32).toInt = 1 := (by decide)
                  refine ok_ite _ (fun c17 => ?_) (fun c17 => ?_)
                  · skip
                    have ic17 := i_eq c17
                    have : (1 : Int32).toInt = 1 := (by decide)
                    have : (1 : Int32).toInt = 1 := (by decide)
                    have := i_bd x4_19
                    (first | have := sp_addx x4_19 (1 : Int32) (by omega) | obtain ⟨k22, hk22⟩ := sp_add x4_19 (1 : Int32))
                    exact ih19 x1_19 x2_19 1 (x4_19 + 1) (by omega) (by omega) (by omega) (by omega) (by omega)
                  · skip
                    have ic17 := i_ne c17
                    have : (1 : Int32).toInt = 1 := (by decide)
                    have : (0 : Int32).toInt = 0 := (by decide)
                    have : (1 : Int32).toInt = 1 := (by decide)
                    have := i_bd x4_19
                    (first | have := sp_addx x4_19 (1 : Int32) (by omega) | obtain ⟨k23, hk23⟩ := sp_add x4_19 (1 : Int32))
                    exact ih19 x1_19 x2_19 0 (x4_19 + 1) (by omega) (by omega) (by omega) (by omega) (by omega)
                · skip
                  have ic16 := i_ne c16
                  have : (38 : Int32).toInt = 38 := (by decide)
                  have : (3 : Int32).toInt = 3 := (by decide)
                  (first | have := sp_cmulx (3 : Int32) x4_19 3 (by decide) (by omega) | obtain ⟨k24, hk24⟩ := sp_cmul (3 : Int32) x4_19 3 (by decide))
                  (first | have := sp_addx (38 : Int32) ((3 : Int32) * x4_19) (by omega) | obtain ⟨k25, hk25⟩ := sp_add (38 : Int32) ((3 : Int32) * x4_19))
                  have : (2 : Int32).toInt = 2 := (by decide)
                  (first | have := sp_addx ((38 : Int32) + ((3 : Int32) * x4_19)) (2 : Int32) (by omega) | obtain ⟨k26, hk26⟩ := sp_add ((38 : Int32) + ((3 : Int32) * x4_19)) (2 : Int32))
                  (try have := gw_w hI_v.1 (e := (((38 : Int32) + ((3 : Int32) * x4_19)) + 2)) (by omega) (by omega) (by omega))
                  (try have := gw_g hI_v.1 (e := (((38 : Int32) + ((3 : Int32) * x4_19)) + 2)) (by omega) (by omega) (by omega))
                  have : (1 : Int32).toInt = 1 := (by decide)
                  refine ok_ite _ (fun c18 => ?_) (fun c18 => ?_)
                  · skip
                    have ic18 := i_eq c18
                    have : (0 : Int32).toInt = 0 := (by decide)
                    have : (1 : Int32).toInt = 1 := (by decide)
                    have := i_bd x4_19
                    (first | have := sp_addx x4_19 (1 : Int32) (by omega) | obtain ⟨k27, hk27⟩ := sp_add x4_19 (1 : Int32))
                    exact ih19 x1_19 x2_19 1 (x4_19 + 1) (by omega) (by omega) (by omega) (by omega) (by omega)
                  · skip
                    have ic18 : Int32.toInt r13 = 1 := one_of hr13_lo hr13_hi c18
                    have : (0 : Int32).toInt = 0 := (by decide)
                    have : (0 : Int32).toInt = 0 := (by decide)
                    have : (1 : Int32).toInt = 1 := (by decide)
                    have := i_bd x4_19
                    (first | have := sp_addx x4_19 (1 : Int32) (by omega) | obtain ⟨k28, hk28⟩ := sp_add x4_19 (1 : Int32))
                    exact ih19 x1_19 x2_19 0 (x4_19 + 1) (by omega) (by omega) (by omega) (by omega) (by omega)
      refine ok_ite _ (fun c19 => ?_) (fun c19 => ?_)
      · skip
        have ic19 := i_le c19
        have : (0 : Int) ≤ (v 36 0 3).toInt ∧ (v 36 0 3).toInt ≤ (6 : Int) := hI_v.1 36 0 3
        refine ok_some ?_
        show (0 : Int) ≤ Int32.toInt x1_4 ∧ Int32.toInt x1_4 ≤ (63 : Int)
        omega
      · skip
        have ic19 := i_nle c19
        have : (0 : Int) ≤ (v 36 0 3).toInt ∧ (v 36 0 3).toInt ≤ (6 : Int) := hI_v.1 36 0 3
        have : (1 : Int32).toInt = 1 := (by decide)
        have : (0 : Int32).toInt = 0 := (by decide)
        exact loop19 2000 x1_4 x2_4 1 0 (by omega) (by omega) (by omega) (by omega) (by omega)
  unfold g_X8_agreeing
  try rw [tc_3]
  try rw [tc_5]
  try rw [tc_7]
  have : (0 : Int32).toInt = 0 := (by decide)
  exact loop4 2000 0 0 (by omega) (by omega) (by omega)
set_option maxHeartbeats 4000000 in
theorem k_X8_agree (v : Mm) (hI_v : IM v)  : ok (g_X8_agree v ) (fun z => True) := by
  unfold g_X8_agree
  refine ok_bind (k_X8_isGate v hI_v  ) (fun r2 hr2 => ?_)
  replace hr2 : (0 : Int) ≤ Int32.toInt r2 ∧ Int32.toInt r2 ≤ (1 : Int) ∧ ((Int32.toInt r2 = 0 ∧ Int32.toInt (v 36 0 3) = 0) ∨ 0 < Int32.toInt (v 36 0 3)) := hr2
  obtain ⟨hr2_lo, hr2_hi, hr2_p0⟩ := hr2
  have : (0 : Int) ≤ (v 36 0 3).toInt ∧ (v 36 0 3).toInt ≤ (6 : Int) := hI_v.1 36 0 3
  refine ok_ite _ (fun c4 => ?_) (fun c4 => ?_)
  · skip
    have ic4 := i_eq c4
    have : (0 : Int32).toInt = 0 := (by decide)
    refine ok_some ?_
    show True
    have : (-1000002 : Int32).toInt = -1000002 := (by decide)
    trivial
  · skip
    have ic4 : Int32.toInt r2 = 1 := one_of hr2_lo hr2_hi c4
    have : (0 : Int32).toInt = 0 := (by decide)
    refine ok_bind (k_X8_agreeing v hI_v  ) (fun r6 hr6 => ?_)
    replace hr6 : (0 : Int) ≤ Int32.toInt r6 ∧ Int32.toInt r6 ≤ (63 : Int) := hr6
    obtain ⟨hr6_lo, hr6_hi⟩ := hr6
    refine ok_some ?_
    show True
    trivial
set_option maxHeartbeats 4000000 in
theorem k_X8_takenOf (v : Mm) (hI_v : IM v) (a1 : Int32) (a2 : Int32) (a3 : Int32) (h_a2 : (0 : Int) ≤ a2.toInt ∧ a2.toInt ≤ (5 : Int)) (h_a3 : (0 : Int) ≤ a3.toInt ∧ a3.toInt ≤ (5 : Int)) (hx0 : 0 < Int32.toInt (v 36 0 4)) : ok (g_X8_takenOf v a1 a2 a3) (fun z => (0 : Int) ≤ Int32.toInt z ∧ Int32.toInt z ≤ (63 : Int)) := by
  have : ((v 36 0 3).toInt = 0 ∧ (v 36 0 4).toInt = 0) ∨ (0 < (v 36 0 3).toInt ∧ 0 < (v 36 0 4).toInt) := hI_v.2.1
  have : (0 : Int) ≤ (v 36 0 4).toInt ∧ (v 36 0 4).toInt ≤ (4 : Int) := hI_v.1 36 0 4
  have loop6 : ∀ (n6 : Nat) (x4_6 : Int32) (x5_6 : Int32), ((0 : Int) ≤ Int32.toInt x4_6 ∧ Int32.toInt x4_6 ≤ (63 : Int)) → ((0 : Int) ≤ Int32.toInt x5_6 ∧ Int32.toInt x5_6 ≤ (6 : Int)) → (6 - Int32.toInt x5_6 < (n6 : Int)) → ok (g_X8_takenOf_L6  v a1 a2 a3 n6 x4_6 x5_6) (fun z => (0 : Int) ≤ Int32.toInt z ∧ Int32.toInt z ≤ (63 : Int)) := by
    intro n6
    induction n6 with
    | zero =>
      intro x4_6 x5_6 hv0_6 hv1_6 hm6
      exfalso
      omega
    | succ n6 ih6 =>
      intro x4_6 x5_6 hv0_6 hv1_6 hm6
      show ok (b_X8_takenOf_L6  (g_X8_takenOf_L6  v a1 a2 a3 n6) v a1 a2 a3 x4_6 x5_6) _
      unfold b_X8_takenOf_L6
      try rw [tc_3]
      try rw [tc_5]
      try rw [tc_6]
      refine ok_ite _ (fun c1 => ?_) (fun c1 => ?_)
      · skip
        have ic1 := i_le c1
        have : (0 : Int) ≤ (v 36 0 3).toInt ∧ (v 36 0 3).toInt ≤ (6 : Int) := hI_v.1 36 0 3
        refine ok_some ?_
        show (0 : Int) ≤ Int32.toInt x4_6 ∧ Int32.toInt x4_6 ≤ (63 : Int)
        omega
      · skip
        have ic1 := i_nle c1
        have : (0 : Int) ≤ (v 36 0 3).toInt ∧ (v 36 0 3).toInt ≤ (6 : Int) := hI_v.1 36 0 3
        refine ok_bind (k_X8_has v hI_v a1 x5_6 ) (fun r3 hr3 => ?_)
        replace hr3 : (0 : Int) ≤ Int32.toInt r3 ∧ Int32.toInt r3 ≤ (1 : Int) := hr3
        obtain ⟨hr3_lo, hr3_hi⟩ := hr3
        refine ok_ite _ (fun c5 => ?_) (fun c5 => ?_)
        · skip
          have ic5 := i_eq c5
          have : (0 : Int32).toInt = 0 := (by decide)
          have : (0 : Int32).toInt = 0 := (by decide)
          (try have := sp_or64 (a := x4_6) (b := (0 : Int32)) (by omega) (by omega) (by omega) (by omega))
          (try have := sp_or16 (a := x4_6) (b := (0 : Int32)) (by omega) (by omega) (by omega) (by omega))
          have : (1 : Int32).toInt = 1 := (by decide)
          have := i_bd x5_6
          (first | have := sp_addx x5_6 (1 : Int32) (by omega) | obtain ⟨k1, hk1⟩ := sp_add x5_6 (1 : Int32))
          exact ih6 (x4_6 ||| 0) (x5_6 + 1) (by omega) (by omega) (by omega)
        · skip
          have ic5 : Int32.toInt r3 = 1 := one_of hr3_lo hr3_hi c5
          have : (0 : Int32).toInt = 0 := (by decide)
          refine ok_bind (k_X8_isTaken v hI_v a2 a3 (v 36 0 5) (v 36 0 6) x5_6 (by omega) (by omega) (by have : (0 : Int) ≤ (v 36 0 5).toInt ∧ (v 36 0 5).toInt ≤ (999 : Int) := hI_v.1 36 0 5; omega) (by omega) (by omega)) (fun r7 hr7 => ?_)
          replace hr7 : (0 : Int) ≤ Int32.toInt r7 ∧ Int32.toInt r7 ≤ (1 : Int) := hr7
          obtain ⟨hr7_lo, hr7_hi⟩ := hr7
          refine ok_ite _ (fun c9 => ?_) (fun c9 => ?_)
          · skip
            have ic9 := i_eq c9
            have : (0 : Int32).toInt = 0 := (by decide)
            have : (0 : Int32).toInt = 0 := (by decide)
            (try have := sp_or64 (a := x4_6) (b := (0 : Int32)) (by omega) (by omega) (by omega) (by omega))
            (try have := sp_or16 (a := x4_6) (b := (0 : Int32)) (by omega) (by omega) (by omega) (by omega))
            have : (1 : Int32).toInt = 1 := (by decide)
            have := i_bd x5_6
            (first | have := sp_addx x5_6 (1 : Int32) (by omega) | obtain ⟨k2, hk2⟩ := sp_add x5_6 (1 : Int32))
            exact ih6 (x4_6 ||| 0) (x5_6 + 1) (by omega) (by omega) (by omega)
          · skip
            have ic9 : Int32.toInt r7 = 1 := one_of hr7_lo hr7_hi c9
            have : (0 : Int32).toInt = 0 := (by decide)
            refine ok_let (fun x10 ex10 => ?_)
            have : (1 : Int32).toInt = 1 := (by decide)
            (try have := sp_shl4 (b := x5_6) (by omega) (by omega))
            (try have := sp_shl5 (b := x5_6) (by omega) (by omega))
            (try have := sp_shl7 (b := x5_6) (by omega) (by omega))
            (try have := sp_shl (a := (1 : Int32)) (b := x5_6) (by omega) (by omega) (by omega) (by omega))
            (try have := sp_or64 (a := x4_6) (b := ((1 : Int32) <<< (x5_6 &&& 31))) (by omega) (by omega) (by omega) (by omega))
            (try have := sp_or16 (a := x4_6) (b := ((1 : Int32) <<< (x5_6 &&& 31))) (by omega) (by omega) (by omega) (by omega))
            have := i_eq ex10
            have : (1 : Int32).toInt = 1 := (by decide)
            have := i_bd x5_6
            (first | have := sp_addx x5_6 (1 : Int32) (by omega) | obtain ⟨k3, hk3⟩ := sp_add x5_6 (1 : Int32))
            exact ih6 x10 (x5_6 + 1) (by omega) (by omega) (by omega)
  unfold g_X8_takenOf
  try rw [tc_3]
  try rw [tc_5]
  try rw [tc_6]
  have : (0 : Int) ≤ (v 36 0 4).toInt ∧ (v 36 0 4).toInt ≤ (4 : Int) := hI_v.1 36 0 4
  have : (0 : Int32).toInt = 0 := (by decide)
  exact loop6 2000 0 0 (by omega) (by omega) (by omega)
set_option maxHeartbeats 4000000 in
theorem k_X8_man (v : Mm) (hI_v : IM v) (a1 : Int32) : ok (g_X8_man v a1) (fun z => True) := by
  have : ((v 36 0 3).toInt = 0 ∧ (v 36 0 4).toInt = 0) ∨ (0 < (v 36 0 3).toInt ∧ 0 < (v 36 0 4).toInt) := hI_v.2.1
  have loop45 : ∀ (n45 : Nat) (x2_45 : Int32) (x3_45 : Int32) (x4_45 : Int32) (x5_45 : Int32) (x6_45 : Int32) (x7_45 : Int32), ((0 : Int) ≤ Int32.toInt x7_45 ∧ Int32.toInt x7_45 ≤ (6 : Int)) → (0 < Int32.toInt (v 36 0 3)) → (6 - Int32.toInt x7_45 < (n45 : Int)) → ok (g_X8_man_L45  v a1 n45 x2_45 x3_45 x4_45 x5_45 x6_45 x7_45) (fun z => True) := by
    intro n45
    induction n45 with
    | zero =>
      intro x2_45 x3_45 x4_45 x5_45 x6_45 x7_45 hv0_45 hv1_45 hm45
      exfalso
      have : (0 : Int) ≤ (v 36 0 3).toInt ∧ (v 36 0 3).toInt ≤ (6 : Int) := hI_v.1 36 0 3
      omega
    | succ n45 ih45 =>
      intro x2_45 x3_45 x4_45 x5_45 x6_45 x7_45 hv0_45 hv1_45 hm45
      show ok (b_X8_man_L45  (g_X8_man_L45  v a1 n45) v a1 x2_45 x3_45 x4_45 x5_45 x6_45 x7_45) _
      unfold b_X8_man_L45
      try rw [tc_3]
      have : (0 : Int) ≤ (v 36 0 3).toInt ∧ (v 36 0 3).toInt ≤ (6 : Int) := hI_v.1 36 0 3
      have loop59 : ∀ (n59 : Nat) (x2_59 : Int32) (x3_59 : Int32) (x4_59 : Int32) (x5_59 : Int32) (x6_59 : Int32) (x7_59 : Int32) (x8_59 : Int32), ((0 : Int) ≤ Int32.toInt x7_59 ∧ Int32.toInt x7_59 ≤ (5 : Int)) → ((0 : Int) ≤ Int32.toInt x8_59 ∧ Int32.toInt x8_59 ≤ (6 : Int)) → (0 < Int32.toInt (v 36 0 3)) → (6 - Int32.toInt x7_59 < (n45 : Int) + 1) → (6 - Int32.toInt x8_59 < (n59 : Int)) → ok (g_X8_man_L59 (g_X8_man_L45  v a1 n45) v a1 n59 x2_59 x3_59 x4_59 x5_59 x6_59 x7_59 x8_59) (fun z => True) := by
        intro n59
        induction n59 with
        | zero =>
          intro x2_59 x3_59 x4_59 x5_59 x6_59 x7_59 x8_59 hv0_59 hv1_59 hv2_59 hv3_59 hm59
          exfalso
          have : (0 : Int) ≤ (v 36 0 3).toInt ∧ (v 36 0 3).toInt ≤ (6 : Int) := hI_v.1 36 0 3
          omega
        | succ n59 ih59 =>
          intro x2_59 x3_59 x4_59 x5_59 x6_59 x7_59 x8_59 hv0_59 hv1_59 hv2_59 hv3_59 hm59
          show ok (b_X8_man_L59 (g_X8_man_L45  v a1 n45) (g_X8_man_L59 (g_X8_man_L45  v a1 n45) v a1 n59) v a1 x2_59 x3_59 x4_59 x5_59 x6_59 x7_59 x8_59) _
          unfold b_X8_man_L59
          try rw [tc_3]
          have : (0 : Int) ≤ (v 36 0 3).toInt ∧ (v 36 0 3).toInt ≤ (6 : Int) := hI_v.1 36 0 3
          refine ok_ite _ (fun c1 => ?_) (fun c1 => ?_)
          · skip
            have ic1 := i_le c1
            have : (6 : Int32).toInt = 6 := (by decide)
            have : (1 : Int32).toInt = 1 := (by decide)
            have := i_bd x7_59
            (first | have := sp_addx x7_59 (1 : Int32) (by omega) | obtain ⟨k1, hk1⟩ := sp_add x7_59 (1 : Int32))
            exact ih45 x2_59 x3_59 x4_59 x5_59 x6_59 (x7_59 + 1) (by omega) (by omega) (by omega)
          · skip
            have ic1 := i_nle c1
            have : (6 : Int32).toInt = 6 := (by decide)
            refine ok_bind (k_X8_takenOf v hI_v x2_59 x7_59 x8_59 (by omega) (by omega) (by omega)) (fun r3 hr3 => ?_)
            replace hr3 : (0 : Int) ≤ Int32.toInt r3 ∧ Int32.toInt r3 ≤ (63 : Int) := hr3
            obtain ⟨hr3_lo, hr3_hi⟩ := hr3
            refine ok_bind (k_X8_ones v hI_v r3 (by omega)) (fun r6 hr6 => ?_)
            replace hr6 : (0 : Int) ≤ Int32.toInt r6 ∧ Int32.toInt r6 ≤ (6 : Int) ∧ (Int32.toInt r3 = 0 ∨ 0 < Int32.toInt r6) := hr6
            obtain ⟨hr6_lo, hr6_hi, hr6_p0⟩ := hr6
            refine ok_ite _ (fun c8 => ?_) (fun c8 => ?_)
            · skip
              have ic8 := i_le c8
              have := i_bd x3_59
              have := i_bd r6
              (first | have := sp_subx x3_59 r6 (by omega) | obtain ⟨k2, hk2⟩ := sp_sub x3_59 r6)
              refine ok_ite _ (fun c9 => ?_) (fun c9 => ?_)
              · skip
                have ic9 := i_le c9
                have := i_bd x3_59
                have := i_bd r6
                (first | have := sp_subx x3_59 r6 (by omega) | obtain ⟨k3, hk3⟩ := sp_sub x3_59 r6)
                refine ok_ite _ (fun c10 => ?_) (fun c10 => ?_)
                · skip
                  have ic10 := i_le c10
                  have := i_bd x3_59
                  have := i_bd r6
                  (first | have := sp_subx x3_59 r6 (by omega) | obtain ⟨k4, hk4⟩ := sp_sub x3_59 r6)
                  refine ok_ite _ (fun c11 => ?_) (fun c11 => ?_)
                  · skip
                    have ic11 := i_le c11
                    have := i_bd x3_59
                    have := i_bd r6
                    (first | have := sp_subx x3_59 r6 (by omega) | obtain ⟨k5, hk5⟩ := sp_sub x3_59 r6)
                    have : (1 : Int32).toInt = 1 := (by decide)
                    have := i_bd x8_59
                    (first | have := sp_addx x8_59 (1 : Int32) (by omega) | obtain ⟨k6, hk6⟩ := sp_add x8_59 (1 : Int32))
                    exact ih59 x2_59 x3_59 x4_59 x5_59 x6_59 x7_59 (x8_59 + 1) (by omega) (by omega) (by omega) (by omega) (by omega)
                  · skip
                    have ic11 := i_nle c11
                    have := i_bd x3_59
                    have := i_bd r6
                    (first | have := sp_subx x3_59 r6 (by omega) | obtain ⟨k7, hk7⟩ := sp_sub x3_59 r6)
                    have := i_bd x3_59
                    have := i_bd r6
                    (first | have := sp_subx x3_59 r6 (by omega) | obtain ⟨k8, hk8⟩ := sp_sub x3_59 r6)
                    have : (1 : Int32).toInt = 1 := (by decide)
                    have := i_bd x8_59
                    (first | have := sp_addx x8_59 (1 : Int32) (by omega) | obtain ⟨k9, hk9⟩ := sp_add x8_59 (1 : Int32))
                    exact ih59 x2_59 x3_59 x4_59 x5_59 (x3_59 - r6) x7_59 (x8_59 + 1) (by omega) (by omega) (by omega) (by omega) (by omega)
                · skip
                  have ic10 := i_nle c10
                  have := i_bd x3_59
                  have := i_bd r6
                  (first | have := sp_subx x3_59 r6 (by omega) | obtain ⟨k10, hk10⟩ := sp_sub x3_59 r6)
                  refine ok_ite _ (fun c12 => ?_) (fun c12 => ?_)
                  · skip
                    have ic12 := i_le c12
                    have := i_bd x3_59
                    have := i_bd r6
                    (first | have := sp_subx x3_59 r6 (by omega) | obtain ⟨k11, hk11⟩ := sp_sub x3_59 r6)
                    have : (1 : Int32).toInt = 1 := (by decide)
                    have := i_bd x8_59
                    (first | have := sp_addx x8_59 (1 : Int32) (by omega) | obtain ⟨k12, hk12⟩ := sp_add x8_59 (1 : Int32))
                    exact ih59 x2_59 x3_59 x4_59 x8_59 x6_59 x7_59 (x8_59 + 1) (by omega) (by omega) (by omega) (by omega) (by omega)
                  · skip
                    have ic12 := i_nle c12
                    have := i_bd x3_59
                    have := i_bd r6
                    (first | have := sp_subx x3_59 r6 (by omega) | obtain ⟨k13, hk13⟩ := sp_sub x3_59 r6)
                    have := i_bd x3_59
                    have := i_bd r6
                    (first | have := sp_subx x3_59 r6 (by omega) | obtain ⟨k14, hk14⟩ := sp_sub x3_59 r6)
                    have : (1 : Int32).toInt = 1 := (by decide)
                    have := i_bd x8_59
                    (first | have := sp_addx x8_59 (1 : Int32) (by omega) | obtain ⟨k15, hk15⟩ := sp_add x8_59 (1 : Int32))
                    exact ih59 x2_59 x3_59 x4_59 x8_59 (x3_59 - r6) x7_59 (x8_59 + 1) (by omega) (by omega) (by omega) (by omega) (by omega)
              · skip
                have ic9 := i_nle c9
                have := i_bd x3_59
                have := i_bd r6
                (first | have := sp_subx x3_59 r6 (by omega) | obtain ⟨k16, hk16⟩ := sp_sub x3_59 r6)
                refine ok_ite _ (fun c13 => ?_) (fun c13 => ?_)
                · skip
                  have ic13 := i_le c13
                  have := i_bd x3_59
                  have := i_bd r6
                  (first | have := sp_subx x3_59 r6 (by omega) | obtain ⟨k17, hk17⟩ := sp_sub x3_59 r6)
                  refine ok_ite _ (fun c14 => ?_) (fun c14 => ?_)
                  · skip
                    have ic14 := i_le c14
                    have := i_bd x3_59
                    have := i_bd r6
                    (first | have := sp_subx x3_59 r6 (by omega) | obtain ⟨k18, hk18⟩ := sp_sub x3_59 r6)
                    have : (1 : Int32).toInt = 1 := (by decide)
                    have := i_bd x8_59
                    (first | have := sp_addx x8_59 (1 : Int32) (by omega) | obtain ⟨k19, hk19⟩ := sp_add x8_59 (1 : Int32))
                    exact ih59 x2_59 x3_59 x7_59 x5_59 x6_59 x7_59 (x8_59 + 1) (by omega) (by omega) (by omega) (by omega) (by omega)
                  · skip
                    have ic14 := i_nle c14
                    have := i_bd x3_59
                    have := i_bd r6
                    (first | have := sp_subx x3_59 r6 (by omega) | obtain ⟨k20, hk20⟩ := sp_sub x3_59 r6)
                    have := i_bd x3_59
                    have := i_bd r6
                    (first | have := sp_subx x3_59 r6 (by omega) | obtain ⟨k21, hk21⟩ := sp_sub x3_59 r6)
                    have : (1 : Int32).toInt = 1 := (by decide)
                    have := i_bd x8_59
                    (first | have := sp_addx x8_59 (1 : Int32) (by omega) | obtain ⟨k22, hk22⟩ := sp_add x8_59 (1 : Int32))
                    exact ih59 x2_59 x3_59 x7_59 x5_59 (x3_59 - r6) x7_59 (x8_59 + 1) (by omega) (by omega) (by omega) (by omega) (by omega)
                · skip
                  have ic13 := i_nle c13
                  have := i_bd x3_59
                  have := i_bd r6
                  (first | have := sp_subx x3_59 r6 (by omega) | obtain ⟨k23, hk23⟩ := sp_sub x3_59 r6)
                  refine ok_ite _ (fun c15 => ?_) (fun c15 => ?_)
                  · skip
                    have ic15 := i_le c15
                    have := i_bd x3_59
                    have := i_bd r6
                    (first | have := sp_subx x3_59 r6 (by omega) | obtain ⟨k24, hk24⟩ := sp_sub x3_59 r6)
                    have : (1 : Int32).toInt = 1 := (by decide)
                    have := i_bd x8_59
                    (first | have := sp_addx x8_59 (1 : Int32) (by omega) | obtain ⟨k25, hk25⟩ := sp_add x8_59 (1 : Int32))
                    exact ih59 x2_59 x3_59 x7_59 x8_59 x6_59 x7_59 (x8_59 + 1) (by omega) (by omega) (by omega) (by omega) (by omega)
                  · skip
                    have ic15 := i_nle c15
                    have := i_bd x3_59
                    have := i_bd r6
                    (first | have := sp_subx x3_59 r6 (by omega) | obtain ⟨k26, hk26⟩ := sp_sub x3_59 r6)
                    have := i_bd x3_59
                    have := i_bd r6
                    (first | have := sp_subx x3_59 r6 (by omega) | obtain ⟨k27, hk27⟩ := sp_sub x3_59 r6)
                    have : (1 : Int32).toInt = 1 := (by decide)
                    have := i_bd x8_59
                    (first | have := sp_addx x8_59 (1 : Int32) (by omega) | obtain ⟨k28, hk28⟩ := sp_add x8_59 (1 : Int32))
                    exact ih59 x2_59 x3_59 x7_59 x8_59 (x3_59 - r6) x7_59 (x8_59 + 1) (by omega) (by omega) (by omega) (by omega) (by omega)
            · skip
              have ic8 := i_nle c8
              have := i_bd x3_59
              have := i_bd r6
              (first | have := sp_subx x3_59 r6 (by omega) | obtain ⟨k29, hk29⟩ := sp_sub x3_59 r6)
              refine ok_ite _ (fun c16 => ?_) (fun c16 => ?_)
              · skip
                have ic16 := i_le c16
                refine ok_ite _ (fun c17 => ?_) (fun c17 => ?_)
                · skip
                  have ic17 := i_le c17
                  refine ok_ite _ (fun c18 => ?_) (fun c18 => ?_)
                  · skip
                    have ic18 := i_le c18
                    have : (1 : Int32).toInt = 1 := (by decide)
                    have := i_bd x8_59
                    (first | have := sp_addx x8_59 (1 : Int32) (by omega) | obtain ⟨k30, hk30⟩ := sp_add x8_59 (1 : Int32))
                    exact ih59 x2_59 x3_59 x4_59 x5_59 x6_59 x7_59 (x8_59 + 1) (by omega) (by omega) (by omega) (by omega) (by omega)
                  · skip
                    have ic18 := i_nle c18
                    have : (1 : Int32).toInt = 1 := (by decide)
                    have := i_bd x8_59
                    (first | have := sp_addx x8_59 (1 : Int32) (by omega) | obtain ⟨k31, hk31⟩ := sp_add x8_59 (1 : Int32))
                    exact ih59 x2_59 x3_59 x4_59 x5_59 r6 x7_59 (x8_59 + 1) (by omega) (by omega) (by omega) (by omega) (by omega)
                · skip
                  have ic17 := i_nle c17
                  refine ok_ite _ (fun c19 => ?_) (fun c19 => ?_)
                  · skip
                    have ic19 := i_le c19
                    have : (1 : Int32).toInt = 1 := (by decide)
                    have := i_bd x8_59
                    (first | have := sp_addx x8_59 (1 : Int32) (by omega) | obtain ⟨k32, hk32⟩ := sp_add x8_59 (1 : Int32))
                    exact ih59 x2_59 x3_59 x4_59 x8_59 x6_59 x7_59 (x8_59 + 1) (by omega) (by omega) (by omega) (by omega) (by omega)
                  · skip
                    have ic19 := i_nle c19
                    have : (1 : Int32).toInt = 1 := (by decide)
                    have := i_bd x8_59
                    (first | have := sp_addx x8_59 (1 : Int32) (by omega) | obtain ⟨k33, hk33⟩ := sp_add x8_59 (1 : Int32))
                    exact ih59 x2_59 x3_59 x4_59 x8_59 r6 x7_59 (x8_59 + 1) (by omega) (by omega) (by omega) (by omega) (by omega)
              · skip
                have ic16 := i_nle c16
                refine ok_ite _ (fun c20 => ?_) (fun c20 => ?_)
                · skip
                  have ic20 := i_le c20
                  refine ok_ite _ (fun c21 => ?_) (fun c21 => ?_)
                  · skip
                    have ic21 := i_le c21
                    have : (1 : Int32).toInt = 1 := (by decide)
                    have := i_bd x8_59
                    (first | have := sp_addx x8_59 (1 : Int32) (by omega) | obtain ⟨k34, hk34⟩ := sp_add x8_59 (1 : Int32))
                    exact ih59 x2_59 x3_59 x7_59 x5_59 x6_59 x7_59 (x8_59 + 1) (by omega) (by omega) (by omega) (by omega) (by omega)
                  · skip
                    have ic21 := i_nle c21
                    have : (1 : Int32).toInt = 1 := (by decide)
                    have := i_bd x8_59
                    (first | have := sp_addx x8_59 (1 : Int32) (by omega) | obtain ⟨k35, hk35⟩ := sp_add x8_59 (1 : Int32))
                    exact ih59 x2_59 x3_59 x7_59 x5_59 r6 x7_59 (x8_59 + 1) (by omega) (by omega) (by omega) (by omega) (by omega)
                · skip
                  have ic20 := i_nle c20
                  refine ok_ite _ (fun c22 => ?_) (fun c22 => ?_)
                  · skip
                    have ic22 := i_le c22
                    have : (1 : Int32).toInt = 1 := (by decide)
                    have := i_bd x8_59
                    (first | have := sp_addx x8_59 (1 : Int32) (by omega) | obtain ⟨k36, hk36⟩ := sp_add x8_59 (1 : Int32))
                    exact ih59 x2_59 x3_59 x7_59 x8_59 x6_59 x7_59 (x8_59 + 1) (by omega) (by omega) (by omega) (by omega) (by omega)
                  · skip
                    have ic22 := i_nle c22
                    have : (1 : Int32).toInt = 1 := (by decide)
                    have := i_bd x8_59
                    (first | have := sp_addx x8_59 (1 : Int32) (by omega) | obtain ⟨k37, hk37⟩ := sp_add x8_59 (1 : Int32))
                    exact ih59 x2_59 x3_59 x7_59 x8_59 r6 x7_59 (x8_59 + 1) (by omega) (by omega) (by omega) (by omega) (by omega)
      refine ok_ite _ (fun c23 => ?_) (fun c23 => ?_)
      · skip
        have ic23 := i_le c23
        have : (0 : Int) ≤ (v 36 0 3).toInt ∧ (v 36 0 3).toInt ≤ (6 : Int) := hI_v.1 36 0 3
        refine ok_ite _ (fun c24 => ?_) (fun c24 => ?_)
        · skip
          have ic24 := i_eq c24
          have : (0 : Int32).toInt = 0 := (by decide)
          refine ok_some ?_
          show True
          trivial
        · skip
          have ic24 := i_ne c24
          have : (0 : Int32).toInt = 0 := (by decide)
          refine ok_ite _ (fun c25 => ?_) (fun c25 => ?_)
          · skip
            have ic25 := i_eq c25
            have : (1 : Int32).toInt = 1 := (by decide)
            refine ok_some ?_
            show True
            trivial
          · skip
            have ic25 := i_ne c25
            have : (1 : Int32).toInt = 1 := (by decide)
            refine ok_some ?_
            show True
            trivial
      · skip
        have ic23 := i_nle c23
        have : (0 : Int) ≤ (v 36 0 3).toInt ∧ (v 36 0 3).toInt ≤ (6 : Int) := hI_v.1 36 0 3
        have : (0 : Int32).toInt = 0 := (by decide)
        exact loop59 2000 x2_45 x3_45 x4_45 x5_45 x6_45 x7_45 0 (by omega) (by omega) (by omega) (by omega) (by omega)
  unfold g_X8_man
  try rw [tc_3]
  refine ok_bind (k_X8_isGate v hI_v  ) (fun r27 hr27 => ?_)
  replace hr27 : (0 : Int) ≤ Int32.toInt r27 ∧ Int32.toInt r27 ≤ (1 : Int) ∧ ((Int32.toInt r27 = 0 ∧ Int32.toInt (v 36 0 3) = 0) ∨ 0 < Int32.toInt (v 36 0 3)) := hr27
  obtain ⟨hr27_lo, hr27_hi, hr27_p0⟩ := hr27
  have : (0 : Int) ≤ (v 36 0 3).toInt ∧ (v 36 0 3).toInt ≤ (6 : Int) := hI_v.1 36 0 3
  refine ok_ite _ (fun c29 => ?_) (fun c29 => ?_)
  · skip
    have ic29 := i_eq c29
    have : (0 : Int32).toInt = 0 := (by decide)
    refine ok_some ?_
    show True
    have : (-1000002 : Int32).toInt = -1000002 := (by decide)
    trivial
  · skip
    have ic29 : Int32.toInt r27 = 1 := one_of hr27_lo hr27_hi c29
    have : (0 : Int32).toInt = 0 := (by decide)
    refine ok_bind (k_X8_in v hI_v a1 0 2 ) (fun r31 hr31 => ?_)
    replace hr31 : (0 : Int) ≤ Int32.toInt r31 ∧ Int32.toInt r31 ≤ (1 : Int) ∧ (Int32.toInt r31 = 0 ∨ (Int32.toInt 0 ≤ Int32.toInt a1 ∧ Int32.toInt a1 ≤ Int32.toInt 2)) := hr31
    obtain ⟨hr31_lo, hr31_hi, hr31_p0⟩ := hr31
    have : (0 : Int32).toInt = 0 := (by decide)
    have : (2 : Int32).toInt = 2 := (by decide)
    refine ok_ite _ (fun c33 => ?_) (fun c33 => ?_)
    · skip
      have ic33 := i_eq c33
      try clear hr31_p0
      have : (0 : Int32).toInt = 0 := (by decide)
      refine ok_some ?_
      show True
      have : (-1000001 : Int32).toInt = -1000001 := (by decide)
      trivial
    · skip
      have ic33 : Int32.toInt r31 = 1 := one_of hr31_lo hr31_hi c33
      try replace hr31_p0 : (Int32.toInt 0 ≤ Int32.toInt a1 ∧ Int32.toInt a1 ≤ Int32.toInt 2) := orr hr31_p0 ic33
      have : (0 : Int32).toInt = 0 := (by decide)
      refine ok_bind (k_X8_agreeing v hI_v  ) (fun r35 hr35 => ?_)
      replace hr35 : (0 : Int) ≤ Int32.toInt r35 ∧ Int32.toInt r35 ≤ (63 : Int) := hr35
      obtain ⟨hr35_lo, hr35_hi⟩ := hr35
      refine ok_bind (k_X8_ones v hI_v r35 (by omega)) (fun r38 hr38 => ?_)
      replace hr38 : (0 : Int) ≤ Int32.toInt r38 ∧ Int32.toInt r38 ≤ (6 : Int) ∧ (Int32.toInt r35 = 0 ∨ 0 < Int32.toInt r38) := hr38
      obtain ⟨hr38_lo, hr38_hi, hr38_p0⟩ := hr38
      have : (0 : Int32).toInt = 0 := (by decide)
      have : (9 : Int32).toInt = 9 := (by decide)
      exact loop45 2000 r35 r38 0 0 9 0 (by omega) (by omega) (by omega)
set_option maxHeartbeats 4000000 in
theorem k_X8_menFor (v : Mm) (hI_v : IM v) (a1 : Int32) (h_a1 : (0 : Int) ≤ a1.toInt ∧ a1.toInt ≤ (63 : Int)) (hx0 : 0 < Int32.toInt (v 36 0 4)) : ok (g_X8_menFor v a1) (fun z => True) := by
  have : ((v 36 0 3).toInt = 0 ∧ (v 36 0 4).toInt = 0) ∨ (0 < (v 36 0 3).toInt ∧ 0 < (v 36 0 4).toInt) := hI_v.2.1
  have : (0 : Int) ≤ (v 36 0 4).toInt ∧ (v 36 0 4).toInt ≤ (4 : Int) := hI_v.1 36 0 4
  have loop15 : ∀ (n15 : Nat) (x2_15 : Int32) (x3_15 : Int32), ((0 : Int) ≤ Int32.toInt x3_15 ∧ Int32.toInt x3_15 ≤ (6 : Int)) → (6 - Int32.toInt x3_15 < (n15 : Int)) → ok (g_X8_menFor_L15  v a1 n15 x2_15 x3_15) (fun z => True) := by
    intro n15
    induction n15 with
    | zero =>
      intro x2_15 x3_15 hv0_15 hm15
      exfalso
      omega
    | succ n15 ih15 =>
      intro x2_15 x3_15 hv0_15 hm15
      show ok (b_X8_menFor_L15  (g_X8_menFor_L15  v a1 n15) v a1 x2_15 x3_15) _
      unfold b_X8_menFor_L15
      try rw [tc_3]
      have loop28 : ∀ (n28 : Nat) (x2_28 : Int32) (x3_28 : Int32) (x4_28 : Int32), ((0 : Int) ≤ Int32.toInt x3_28 ∧ Int32.toInt x3_28 ≤ (5 : Int)) → ((0 : Int) ≤ Int32.toInt x4_28 ∧ Int32.toInt x4_28 ≤ (6 : Int)) → (6 - Int32.toInt x3_28 < (n15 : Int) + 1) → (6 - Int32.toInt x4_28 < (n28 : Int)) → ok (g_X8_menFor_L28 (g_X8_menFor_L15  v a1 n15) v a1 n28 x2_28 x3_28 x4_28) (fun z => True) := by
        intro n28
        induction n28 with
        | zero =>
          intro x2_28 x3_28 x4_28 hv0_28 hv1_28 hv2_28 hm28
          exfalso
          omega
        | succ n28 ih28 =>
          intro x2_28 x3_28 x4_28 hv0_28 hv1_28 hv2_28 hm28
          show ok (b_X8_menFor_L28 (g_X8_menFor_L15  v a1 n15) (g_X8_menFor_L28 (g_X8_menFor_L15  v a1 n15) v a1 n28) v a1 x2_28 x3_28 x4_28) _
          unfold b_X8_menFor_L28
          try rw [tc_3]
          refine ok_ite _ (fun c1 => ?_) (fun c1 => ?_)
          · skip
            have ic1 := i_le c1
            have : (6 : Int32).toInt = 6 := (by decide)
            have : (1 : Int32).toInt = 1 := (by decide)
            have := i_bd x3_28
            (first | have := sp_addx x3_28 (1 : Int32) (by omega) | obtain ⟨k1, hk1⟩ := sp_add x3_28 (1 : Int32))
            exact ih15 x2_28 (x3_28 + 1) (by omega) (by omega)
          · skip
            have ic1 := i_nle c1
            have : (6 : Int32).toInt = 6 := (by decide)
            refine ok_bind (k_X8_takenOf v hI_v a1 x3_28 x4_28 (by omega) (by omega) (by omega)) (fun r3 hr3 => ?_)
            replace hr3 : (0 : Int) ≤ Int32.toInt r3 ∧ Int32.toInt r3 ≤ (63 : Int) := hr3
            obtain ⟨hr3_lo, hr3_hi⟩ := hr3
            refine ok_ite _ (fun c5 => ?_) (fun c5 => ?_)
            · skip
              have ic5 := i_eq c5
              have : (0 : Int32).toInt = 0 := (by decide)
              have : (1 : Int32).toInt = 1 := (by decide)
              have := i_bd x4_28
              (first | have := sp_addx x4_28 (1 : Int32) (by omega) | obtain ⟨k2, hk2⟩ := sp_add x4_28 (1 : Int32))
              exact ih28 x2_28 x3_28 (x4_28 + 1) (by omega) (by omega) (by omega) (by omega)
            · skip
              have ic5 := i_ne c5
              have : (0 : Int32).toInt = 0 := (by decide)
              refine ok_ite _ (fun c6 => ?_) (fun c6 => ?_)
              · skip
                have ic6 := i_eq c6
                have : (-1 : Int32).toInt = -1 := (by decide)
                (try have := sp_xor64 (a := r3) (b := (-1 : Int32)) (by omega) (by omega) (by omega) (by omega))
                (try have := sp_xor16 (a := r3) (b := (-1 : Int32)) (by omega) (by omega) (by omega) (by omega))
                (try have := sp_andl (a := a1) (b := (r3 ^^^ ((-1)))) (by omega) (by omega))
                (try have := sp_and64 (a := a1) (b := (r3 ^^^ ((-1)))) (by omega) (by omega) (by omega) (by omega))
                have : (0 : Int32).toInt = 0 := (by decide)
                have : (1 : Int32).toInt = 1 := (by decide)
                have := i_bd x4_28
                (first | have := sp_addx x4_28 (1 : Int32) (by omega) | obtain ⟨k3, hk3⟩ := sp_add x4_28 (1 : Int32))
                exact ih28 x2_28 x3_28 (x4_28 + 1) (by omega) (by omega) (by omega) (by omega)
              · skip
                have ic6 := i_ne c6
                have : (-1 : Int32).toInt = -1 := (by decide)
                (try have := sp_xor64 (a := r3) (b := (-1 : Int32)) (by omega) (by omega) (by omega) (by omega))
                (try have := sp_xor16 (a := r3) (b := (-1 : Int32)) (by omega) (by omega) (by omega) (by omega))
                (try have := sp_andl (a := a1) (b := (r3 ^^^ ((-1)))) (by omega) (by omega))
                (try have := sp_and64 (a := a1) (b := (r3 ^^^ ((-1)))) (by omega) (by omega) (by omega) (by omega))
                have : (0 : Int32).toInt = 0 := (by decide)
                refine ok_grd _ ?_ ?_
                · skip
                  exact gr (by omega) (by omega)
                refine ok_ite _ (fun c8 => ?_) (fun c8 => ?_)
                · skip
                  have ic8 := i_eq c8
                  have : (-1000000 : Int32).toInt = -1000000 := (by decide)
                  have : (1 : Int32).toInt = 1 := (by decide)
                  have := i_bd x4_28
                  (first | have := sp_addx x4_28 (1 : Int32) (by omega) | obtain ⟨k4, hk4⟩ := sp_add x4_28 (1 : Int32))
                  exact ih28 x2_28 x3_28 (x4_28 + 1) (by omega) (by omega) (by omega) (by omega)
                · skip
                  have ic8 := i_ne c8
                  have : (-1000000 : Int32).toInt = -1000000 := (by decide)
                  refine ok_grd _ ?_ ?_
                  · skip
                    have : (-1 : Int32).toInt = -1 := (by decide)
                    (try have := sp_xor64 (a := r3) (b := (-1 : Int32)) (by omega) (by omega) (by omega) (by omega))
                    (try have := sp_xor16 (a := r3) (b := (-1 : Int32)) (by omega) (by omega) (by omega) (by omega))
                    (try have := sp_andl (a := a1) (b := (r3 ^^^ ((-1)))) (by omega) (by omega))
                    (try have := sp_and64 (a := a1) (b := (r3 ^^^ ((-1)))) (by omega) (by omega) (by omega) (by omega))
                    exact gr (by omega) (by omega)
                  refine ok_ite _ (fun c10 => ?_) (fun c10 => ?_)
                  · skip
                    have ic10 := i_eq c10
                    have : (-1000000 : Int32).toInt = -1000000 := (by decide)
                    have : (1 : Int32).toInt = 1 := (by decide)
                    have := i_bd x4_28
                    (first | have := sp_addx x4_28 (1 : Int32) (by omega) | obtain ⟨k5, hk5⟩ := sp_add x4_28 (1 : Int32))
                    exact ih28 x2_28 x3_28 (x4_28 + 1) (by omega) (by omega) (by omega) (by omega)
                  · skip
                    have ic10 := i_ne c10
                    have : (-1000000 : Int32).toInt = -1000000 := (by decide)
                    refine ok_grd _ ?_ ?_
                    · skip
                      exact gr (by omega) (by omega)
                    refine ok_grd _ ?_ ?_
                    · skip
                      have : (-1 : Int32).toInt = -1 := (by decide)
                      (try have := sp_xor64 (a := r3) (b := (-1 : Int32)) (by omega) (by omega) (by omega) (by omega))
                      (try have := sp_xor16 (a := r3) (b := (-1 : Int32)) (by omega) (by omega) (by omega) (by omega))
                      (try have := sp_andl (a := a1) (b := (r3 ^^^ ((-1)))) (by omega) (by omega))
                      (try have := sp_and64 (a := a1) (b := (r3 ^^^ ((-1)))) (by omega) (by omega) (by omega) (by omega))
                      exact gr (by omega) (by omega)
                    refine ok_ite _ (fun c13 => ?_) (fun c13 => ?_)
                    · skip
                      have ic13 := i_le c13
                      refine ok_grd _ ?_ ?_
                      · skip
                        have : (-1 : Int32).toInt = -1 := (by decide)
                        (try have := sp_xor64 (a := r3) (b := (-1 : Int32)) (by omega) (by omega) (by omega) (by omega))
                        (try have := sp_xor16 (a := r3) (b := (-1 : Int32)) (by omega) (by omega) (by omega) (by omega))
                        (try have := sp_andl (a := a1) (b := (r3 ^^^ ((-1)))) (by omega) (by omega))
                        (try have := sp_and64 (a := a1) (b := (r3 ^^^ ((-1)))) (by omega) (by omega) (by omega) (by omega))
                        exact gr (by omega) (by omega)
                      refine ok_let (fun x15 ex15 => ?_)
                      have : (1 : Int32).toInt = 1 := (by decide)
                      have := i_bd (v 42 0 (Int32.toNatClampNeg (a1 &&& (r3 ^^^ ((-1))))))
                      (first | have := sp_addx (1 : Int32) (v 42 0 (Int32.toNatClampNeg (a1 &&& (r3 ^^^ ((-1)))))) (by omega) | obtain ⟨k6, hk6⟩ := sp_add (1 : Int32) (v 42 0 (Int32.toNatClampNeg (a1 &&& (r3 ^^^ ((-1)))))))
                      have := i_eq ex15
                      refine ok_ite _ (fun c16 => ?_) (fun c16 => ?_)
                      · skip
                        have ic16 := i_eq c16
                        have : (-1000000 : Int32).toInt = -1000000 := (by decide)
                        have : (1 : Int32).toInt = 1 := (by decide)
                        have := i_bd x4_28
                        (first | have := sp_addx x4_28 (1 : Int32) (by omega) | obtain ⟨k7, hk7⟩ := sp_add x4_28 (1 : Int32))
                        exact ih28 x15 x3_28 (x4_28 + 1) (by omega) (by omega) (by omega) (by omega)
                      · skip
                        have ic16 := i_ne c16
                        have : (-1000000 : Int32).toInt = -1000000 := (by decide)
                        refine ok_ite _ (fun c17 => ?_) (fun c17 => ?_)
                        · skip
                          have ic17 := i_le c17
                          have : (1 : Int32).toInt = 1 := (by decide)
                          have := i_bd x4_28
                          (first | have := sp_addx x4_28 (1 : Int32) (by omega) | obtain ⟨k8, hk8⟩ := sp_add x4_28 (1 : Int32))
                          exact ih28 x2_28 x3_28 (x4_28 + 1) (by omega) (by omega) (by omega) (by omega)
                        · skip
                          have ic17 := i_nle c17
                          have : (1 : Int32).toInt = 1 := (by decide)
                          have := i_bd x4_28
                          (first | have := sp_addx x4_28 (1 : Int32) (by omega) | obtain ⟨k9, hk9⟩ := sp_add x4_28 (1 : Int32))
                          exact ih28 x15 x3_28 (x4_28 + 1) (by omega) (by omega) (by omega) (by omega)
                    · skip
                      have ic13 := i_nle c13
                      refine ok_grd _ ?_ ?_
                      · skip
                        exact gr (by omega) (by omega)
                      refine ok_let (fun x19 ex19 => ?_)
                      have : (1 : Int32).toInt = 1 := (by decide)
                      have := i_bd (v 42 0 (Int32.toNatClampNeg r3))
                      (first | have := sp_addx (1 : Int32) (v 42 0 (Int32.toNatClampNeg r3)) (by omega) | obtain ⟨k10, hk10⟩ := sp_add (1 : Int32) (v 42 0 (Int32.toNatClampNeg r3)))
                      have := i_eq ex19
                      refine ok_ite _ (fun c20 => ?_) (fun c20 => ?_)
                      · skip
                        have ic20 := i_eq c20
                        have : (-1000000 : Int32).toInt = -1000000 := (by decide)
                        have : (1 : Int32).toInt = 1 := (by decide)
                        have := i_bd x4_28
                        (first | have := sp_addx x4_28 (1 : Int32) (by omega) | obtain ⟨k11, hk11⟩ := sp_add x4_28 (1 : Int32))
                        exact ih28 x19 x3_28 (x4_28 + 1) (by omega) (by omega) (by omega) (by omega)
                      · skip
                        have ic20 := i_ne c20
                        have : (-1000000 : Int32).toInt = -1000000 := (by decide)
                        refine ok_ite _ (fun c21 => ?_) (fun c21 => ?_)
                        · skip
                          have ic21 := i_le c21
                          have : (1 : Int32).toInt = 1 := (by decide)
                          have := i_bd x4_28
                          (first | have := sp_addx x4_28 (1 : Int32) (by omega) | obtain ⟨k12, hk12⟩ := sp_add x4_28 (1 : Int32))
                          exact ih28 x2_28 x3_28 (x4_28 + 1) (by omega) (by omega) (by omega) (by omega)
                        · skip
                          have ic21 := i_nle c21
                          have : (1 : Int32).toInt = 1 := (by decide)
                          have := i_bd x4_28
                          (first | have := sp_addx x4_28 (1 : Int32) (by omega) | obtain ⟨k13, hk13⟩ := sp_add x4_28 (1 : Int32))
                          exact ih28 x19 x3_28 (x4_28 + 1) (by omega) (by omega) (by omega) (by omega)
      refine ok_ite _ (fun c22 => ?_) (fun c22 => ?_)
      · skip
        have ic22 := i_le c22
        have : (0 : Int) ≤ (v 36 0 3).toInt ∧ (v 36 0 3).toInt ≤ (6 : Int) := hI_v.1 36 0 3
        refine ok_some ?_
        show True
        trivial
      · skip
        have ic22 := i_nle c22
        have : (0 : Int) ≤ (v 36 0 3).toInt ∧ (v 36 0 3).toInt ≤ (6 : Int) := hI_v.1 36 0 3
        have : (0 : Int32).toInt = 0 := (by decide)
        exact loop28 2000 x2_15 x3_15 0 (by omega) (by omega) (by omega) (by omega)
  unfold g_X8_menFor
  try rw [tc_3]
  have : (0 : Int) ≤ (v 36 0 4).toInt ∧ (v 36 0 4).toInt ≤ (4 : Int) := hI_v.1 36 0 4
  refine ok_bind (k_X8_ones v hI_v a1 (by omega)) (fun r24 hr24 => ?_)
  replace hr24 : (0 : Int) ≤ Int32.toInt r24 ∧ Int32.toInt r24 ≤ (6 : Int) ∧ (Int32.toInt a1 = 0 ∨ 0 < Int32.toInt r24) := hr24
  obtain ⟨hr24_lo, hr24_hi, hr24_p0⟩ := hr24
  refine ok_ite _ (fun c26 => ?_) (fun c26 => ?_)
  · skip
    have ic26 := i_le c26
    have : (2 : Int32).toInt = 2 := (by decide)
    have : (-1000000 : Int32).toInt = -1000000 := (by decide)
    have : (0 : Int32).toInt = 0 := (by decide)
    exact loop15 2000 (-1000000) 0 (by omega) (by omega)
  · skip
    have ic26 := i_nle c26
    have : (2 : Int32).toInt = 2 := (by decide)
    refine ok_some ?_
    show True
    have : (0 : Int32).toInt = 0 := (by decide)
    trivial
set_option maxHeartbeats 4000000 in
theorem k_X8_fewest (v : Mm) (hI_v : IM v)  : ok (g_X8_fewest v ) (fun z => IM z.2) := by
  have : ((v 36 0 3).toInt = 0 ∧ (v 36 0 4).toInt = 0) ∨ (0 < (v 36 0 3).toInt ∧ 0 < (v 36 0 4).toInt) := hI_v.2.1
  have loop17 : ∀ (n17 : Nat) (w17 : Mm) (x1_17 : Int32) (x2_17 : Int32), (IM w17) → ((0 : Int) ≤ Int32.toInt x1_17 ∧ Int32.toInt x1_17 ≤ (63 : Int)) → ((0 : Int) ≤ Int32.toInt x2_17 ∧ Int32.toInt x2_17 ≤ (64 : Int)) → (0 < Int32.toInt (w17 36 0 4)) → (64 - Int32.toInt x2_17 < (n17 : Int)) → ok (g_X8_fewest_L17   n17 w17 x1_17 x2_17) (fun z => IM z.2) := by
    intro n17
    induction n17 with
    | zero =>
      intro w17 x1_17 x2_17 hI_w17 hv0_17 hv1_17 hv2_17 hm17
      exfalso
      have : (0 : Int) ≤ (w17 36 0 4).toInt ∧ (w17 36 0 4).toInt ≤ (4 : Int) := hI_w17.1 36 0 4
      omega
    | succ n17 ih17 =>
      intro w17 x1_17 x2_17 hI_w17 hv0_17 hv1_17 hv2_17 hm17
      show ok (b_X8_fewest_L17  (g_X8_fewest_L17   n17)  w17 x1_17 x2_17) _
      unfold b_X8_fewest_L17
      have : ((w17 36 0 3).toInt = 0 ∧ (w17 36 0 4).toInt = 0) ∨ (0 < (w17 36 0 3).toInt ∧ 0 < (w17 36 0 4).toInt) := hI_w17.2.1
      have : (0 : Int) ≤ (w17 36 0 4).toInt ∧ (w17 36 0 4).toInt ≤ (4 : Int) := hI_w17.1 36 0 4
      refine ok_ite _ (fun c1 => ?_) (fun c1 => ?_)
      · skip
        have ic1 := i_lt c1
        refine ok_grd _ ?_ ?_
        · skip
          exact gr (by omega) (by omega)
        refine ok_some ?_
        show IM w17
        exact hI_w17
      · skip
        have ic1 := i_nlt c1
        refine ok_bind (k_X8_menFor w17 hI_w17 x2_17 (by omega) (by omega)) (fun r4 hr4 => ?_)
        clear hr4
        refine ok_grd _ ?_ ?_
        · skip
          exact gr (by omega) (by omega)
        refine ok_let (fun v7 ev7 => ?_)
        have hI_v7 : IM v7 := by rw [ev7]; exact hI_w17.upo (by decide) (by have h9 := i_bd r4; exact ⟨h9.1, Int.le_of_lt_add_one h9.2⟩)
        have := i_eq (show v7 36 0 4 = w17 36 0 4 by rw [ev7]; exact up3_t (by decide))
        have : ((v7 36 0 3).toInt = 0 ∧ (v7 36 0 4).toInt = 0) ∨ (0 < (v7 36 0 3).toInt ∧ 0 < (v7 36 0 4).toInt) := hI_v7.2.1
        have : (1 : Int32).toInt = 1 := (by decide)
        have := i_bd x2_17
        (first | have := sp_addx x2_17 (1 : Int32) (by omega) | obtain ⟨k1, hk1⟩ := sp_add x2_17 (1 : Int32))
        exact ih17 v7 x1_17 (x2_17 + 1) hI_v7 (by omega) (by omega) (by omega) (by omega)
  unfold g_X8_fewest
  refine ok_bind (k_X8_isGate v hI_v  ) (fun r9 hr9 => ?_)
  replace hr9 : (0 : Int) ≤ Int32.toInt r9 ∧ Int32.toInt r9 ≤ (1 : Int) ∧ ((Int32.toInt r9 = 0 ∧ Int32.toInt (v 36 0 3) = 0) ∨ 0 < Int32.toInt (v 36 0 3)) := hr9
  obtain ⟨hr9_lo, hr9_hi, hr9_p0⟩ := hr9
  have : (0 : Int) ≤ (v 36 0 3).toInt ∧ (v 36 0 3).toInt ≤ (6 : Int) := hI_v.1 36 0 3
  refine ok_ite _ (fun c11 => ?_) (fun c11 => ?_)
  · skip
    have ic11 := i_eq c11
    have : (0 : Int32).toInt = 0 := (by decide)
    refine ok_some ?_
    show IM v
    have : (-1000002 : Int32).toInt = -1000002 := (by decide)
    exact hI_v
  · skip
    have ic11 : Int32.toInt r9 = 1 := one_of hr9_lo hr9_hi c11
    have : (0 : Int32).toInt = 0 := (by decide)
    refine ok_bind (k_X8_agreeing v hI_v  ) (fun r13 hr13 => ?_)
    replace hr13 : (0 : Int) ≤ Int32.toInt r13 ∧ Int32.toInt r13 ≤ (63 : Int) := hr13
    obtain ⟨hr13_lo, hr13_hi⟩ := hr13
    have : (0 : Int32).toInt = 0 := (by decide)
    exact loop17 2000 v r13 0 hI_v (by omega) (by omega) (by omega) (by omega)
