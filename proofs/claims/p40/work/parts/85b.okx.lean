set_option maxHeartbeats 4000000 in
theorem k_X3_agreesWithTries (v : Mm) (hI_v : PW rgX v) (i0 : Nat) (a1 : Int32) (h_a1 : (0 : Int) ≤ a1.toInt ∧ a1.toInt ≤ (5 : Int)) : ok (g_X3_agreesWithTries v i0 a1) (fun z => (0 : Int) ≤ Int32.toInt z ∧ Int32.toInt z ≤ (1 : Int)) := by
  have loop7 : ∀ (n7 : Nat) (x3_7 : Int32), ((0 : Int) ≤ Int32.toInt x3_7 ∧ Int32.toInt x3_7 ≤ (9 : Int)) → (9 - Int32.toInt x3_7 < (n7 : Int)) → ok (g_X3_agreesWithTries_L7  v i0 a1 n7 x3_7) (fun z => (0 : Int) ≤ Int32.toInt z ∧ Int32.toInt z ≤ (1 : Int)) := by
    intro n7
    induction n7 with
    | zero =>
      intro x3_7 hv0_7 hm7
      exfalso
      omega
    | succ n7 ih7 =>
      intro x3_7 hv0_7 hm7
      show ok (b_X3_agreesWithTries_L7  (g_X3_agreesWithTries_L7  v i0 a1 n7) v i0 a1 x3_7) _
      unfold b_X3_agreesWithTries_L7
      refine ok_ite _ (fun c1 => ?_) (fun c1 => ?_)
      · skip
        have ic1 := i_le c1
        have : (0 : Int) ≤ (v 10 i0 7).toInt ∧ (v 10 i0 7).toInt ≤ (9 : Int) := hI_v 10 i0 7
        refine ok_some ?_
        show (0 : Int) ≤ Int32.toInt (1 : Int32) ∧ Int32.toInt (1 : Int32) ≤ (1 : Int)
        have : (1 : Int32).toInt = 1 := (by decide)
        omega
      · skip
        have ic1 := i_nle c1
        have : (0 : Int) ≤ (v 10 i0 7).toInt ∧ (v 10 i0 7).toInt ≤ (9 : Int) := hI_v 10 i0 7
        refine ok_grd _ ?_ ?_
        · skip
          exact gr (by omega) (by omega)
        refine ok_ite _ (fun c3 => ?_) (fun c3 => ?_)
        · skip
          have ic3 := i_lt c3
          have : (0 : Int32).toInt = 0 := (by decide)
          refine ok_bind (k_X7_bit v hI_v 0 ) (fun r5 hr5 => ?_)
          replace hr5 : (0 : Int) ≤ Int32.toInt r5 ∧ Int32.toInt r5 ≤ (1 : Int) := hr5
          obtain ⟨hr5_lo, hr5_hi⟩ := hr5
          refine ok_grd _ ?_ ?_
          · skip
            exact gr (by omega) (by omega)
          refine ok_ite _ (fun c8 => ?_) (fun c8 => ?_)
          · skip
            have ic8 := i_eq c8
            have : (1 : Int32).toInt = 1 := (by decide)
            have := i_bd x3_7
            (first | have := sp_addx x3_7 (1 : Int32) (by omega) | obtain ⟨k1, hk1⟩ := sp_add x3_7 (1 : Int32))
            exact ih7 (x3_7 + 1) (by omega) (by omega)
          · skip
            have ic8 := i_ne c8
            refine ok_some ?_
            show (0 : Int) ≤ Int32.toInt (0 : Int32) ∧ Int32.toInt (0 : Int32) ≤ (1 : Int)
            have : (0 : Int32).toInt = 0 := (by decide)
            omega
        · skip
          have ic3 := i_nlt c3
          have : (0 : Int32).toInt = 0 := (by decide)
          refine ok_ite _ (fun c9 => ?_) (fun c9 => ?_)
          · skip
            have ic9 := i_le c9
            have : (0 : Int) ≤ (v 6 i0 7).toInt ∧ (v 6 i0 7).toInt ≤ (4 : Int) := hI_v 6 i0 7
            refine ok_bind (k_X7_bit v hI_v 0 ) (fun r11 hr11 => ?_)
            replace hr11 : (0 : Int) ≤ Int32.toInt r11 ∧ Int32.toInt r11 ≤ (1 : Int) := hr11
            obtain ⟨hr11_lo, hr11_hi⟩ := hr11
            refine ok_grd _ ?_ ?_
            · skip
              exact gr (by omega) (by omega)
            refine ok_ite _ (fun c14 => ?_) (fun c14 => ?_)
            · skip
              have ic14 := i_eq c14
              have : (1 : Int32).toInt = 1 := (by decide)
              have := i_bd x3_7
              (first | have := sp_addx x3_7 (1 : Int32) (by omega) | obtain ⟨k2, hk2⟩ := sp_add x3_7 (1 : Int32))
              exact ih7 (x3_7 + 1) (by omega) (by omega)
            · skip
              have ic14 := i_ne c14
              refine ok_some ?_
              show (0 : Int) ≤ Int32.toInt (0 : Int32) ∧ Int32.toInt (0 : Int32) ≤ (1 : Int)
              have : (0 : Int32).toInt = 0 := (by decide)
              omega
          · skip
            have ic9 := i_nle c9
            have : (0 : Int) ≤ (v 6 i0 7).toInt ∧ (v 6 i0 7).toInt ≤ (4 : Int) := hI_v 6 i0 7
            refine ok_grd _ ?_ ?_
            · skip
              exact gr (by omega) (by omega)
            refine ok_grd _ ?_ ?_
            · skip
              exact gr (by omega) (by omega)
            refine ok_bind (k_X2_wouldTake v hI_v i0 (v 8 i0 (Int32.toNatClampNeg (v 13 i0 (Int32.toNatClampNeg x3_7)))) (v 12 i0 (Int32.toNatClampNeg x3_7)) a1 (v 10 i0 4) (by have : (0 : Int) ≤ (v 12 i0 (Int32.toNatClampNeg x3_7)).toInt ∧ (v 12 i0 (Int32.toNatClampNeg x3_7)).toInt ≤ (5 : Int) := hI_v 12 i0 (Int32.toNatClampNeg x3_7); omega) (by omega)) (fun r18 hr18 => ?_)
            replace hr18 : (0 : Int) ≤ Int32.toInt r18 ∧ Int32.toInt r18 ≤ (1 : Int) := hr18
            obtain ⟨hr18_lo, hr18_hi⟩ := hr18
            refine ok_ite _ (fun c20 => ?_) (fun c20 => ?_)
            · skip
              have ic20 := i_eq c20
              have : (0 : Int32).toInt = 0 := (by decide)
              refine ok_bind (k_X7_bit v hI_v 0 ) (fun r22 hr22 => ?_)
              replace hr22 : (0 : Int) ≤ Int32.toInt r22 ∧ Int32.toInt r22 ≤ (1 : Int) := hr22
              obtain ⟨hr22_lo, hr22_hi⟩ := hr22
              refine ok_grd _ ?_ ?_
              · skip
                exact gr (by omega) (by omega)
              refine ok_ite _ (fun c25 => ?_) (fun c25 => ?_)
              · skip
                have ic25 := i_eq c25
                have : (1 : Int32).toInt = 1 := (by decide)
                have := i_bd x3_7
                (first | have := sp_addx x3_7 (1 : Int32) (by omega) | obtain ⟨k3, hk3⟩ := sp_add x3_7 (1 : Int32))
                exact ih7 (x3_7 + 1) (by omega) (by omega)
              · skip
                have ic25 := i_ne c25
                refine ok_some ?_
                show (0 : Int) ≤ Int32.toInt (0 : Int32) ∧ Int32.toInt (0 : Int32) ≤ (1 : Int)
                have : (0 : Int32).toInt = 0 := (by decide)
                omega
            · skip
              have ic20 : Int32.toInt r18 = 1 := one_of hr18_lo hr18_hi c20
              have : (0 : Int32).toInt = 0 := (by decide)
              refine ok_bind (k_X7_bit v hI_v 1 ) (fun r27 hr27 => ?_)
              replace hr27 : (0 : Int) ≤ Int32.toInt r27 ∧ Int32.toInt r27 ≤ (1 : Int) := hr27
              obtain ⟨hr27_lo, hr27_hi⟩ := hr27
              refine ok_grd _ ?_ ?_
              · skip
                exact gr (by omega) (by omega)
              refine ok_ite _ (fun c30 => ?_) (fun c30 => ?_)
              · skip
                have ic30 := i_eq c30
                have : (1 : Int32).toInt = 1 := (by decide)
                have := i_bd x3_7
                (first | have := sp_addx x3_7 (1 : Int32) (by omega) | obtain ⟨k4, hk4⟩ := sp_add x3_7 (1 : Int32))
                exact ih7 (x3_7 + 1) (by omega) (by omega)
              · skip
                have ic30 := i_ne c30
                refine ok_some ?_
                show (0 : Int) ≤ Int32.toInt (0 : Int32) ∧ Int32.toInt (0 : Int32) ≤ (1 : Int)
                have : (0 : Int32).toInt = 0 := (by decide)
                omega
  unfold g_X3_agreesWithTries
  have : (0 : Int32).toInt = 0 := (by decide)
  exact loop7 2000 0 (by omega) (by omega)
set_option maxHeartbeats 4000000 in
theorem k_X3_agreeing (v : Mm) (hI_v : PW rgX v) (i0 : Nat) : ok (g_X3_agreeing v i0) (fun z => (0 : Int) ≤ Int32.toInt z ∧ Int32.toInt z ≤ (63 : Int)) := by
  have loop4 : ∀ (n4 : Nat) (x1_4 : Int32) (x2_4 : Int32), ((0 : Int) ≤ Int32.toInt x1_4 ∧ Int32.toInt x1_4 ≤ (63 : Int)) → ((0 : Int) ≤ Int32.toInt x2_4 ∧ Int32.toInt x2_4 ≤ (6 : Int)) → (6 - Int32.toInt x2_4 < (n4 : Int)) → ok (g_X3_agreeing_L4  v i0 n4 x1_4 x2_4) (fun z => (0 : Int) ≤ Int32.toInt z ∧ Int32.toInt z ≤ (63 : Int)) := by
    intro n4
    induction n4 with
    | zero =>
      intro x1_4 x2_4 hv0_4 hv1_4 hm4
      exfalso
      omega
    | succ n4 ih4 =>
      intro x1_4 x2_4 hv0_4 hv1_4 hm4
      show ok (b_X3_agreeing_L4  (g_X3_agreeing_L4  v i0 n4) v i0 x1_4 x2_4) _
      unfold b_X3_agreeing_L4
      refine ok_ite _ (fun c1 => ?_) (fun c1 => ?_)
      · skip
        have ic1 := i_le c1
        have : (0 : Int) ≤ (v 6 i0 6).toInt ∧ (v 6 i0 6).toInt ≤ (6 : Int) := hI_v 6 i0 6
        refine ok_some ?_
        show (0 : Int) ≤ Int32.toInt x1_4 ∧ Int32.toInt x1_4 ≤ (63 : Int)
        omega
      · skip
        have ic1 := i_nle c1
        have : (0 : Int) ≤ (v 6 i0 6).toInt ∧ (v 6 i0 6).toInt ≤ (6 : Int) := hI_v 6 i0 6
        refine ok_bind (k_X3_agreesWithTries v hI_v i0 x2_4 (by omega)) (fun r3 hr3 => ?_)
        replace hr3 : (0 : Int) ≤ Int32.toInt r3 ∧ Int32.toInt r3 ≤ (1 : Int) := hr3
        obtain ⟨hr3_lo, hr3_hi⟩ := hr3
        refine ok_bind (k_X7_bit v hI_v r3 ) (fun r6 hr6 => ?_)
        replace hr6 : (0 : Int) ≤ Int32.toInt r6 ∧ Int32.toInt r6 ≤ (1 : Int) := hr6
        obtain ⟨hr6_lo, hr6_hi⟩ := hr6
        (try have := sp_shl (a := r6) (b := x2_4) (by omega) (by omega) (by omega) (by omega))
        (try have := sp_or64 (a := x1_4) (b := (r6 <<< (x2_4 &&& 31))) (by omega) (by omega) (by omega) (by omega))
        (try have := sp_or16 (a := x1_4) (b := (r6 <<< (x2_4 &&& 31))) (by omega) (by omega) (by omega) (by omega))
        have : (1 : Int32).toInt = 1 := (by decide)
        have := i_bd x2_4
        (first | have := sp_addx x2_4 (1 : Int32) (by omega) | obtain ⟨k1, hk1⟩ := sp_add x2_4 (1 : Int32))
        exact ih4 (x1_4 ||| (r6 <<< (x2_4 &&& 31))) (x2_4 + 1) (by omega) (by omega) (by omega)
  unfold g_X3_agreeing
  have : (0 : Int32).toInt = 0 := (by decide)
  exact loop4 2000 0 0 (by omega) (by omega) (by omega)
set_option maxHeartbeats 4000000 in
theorem k_X3_secretsCatching (v : Mm) (hI_v : PW rgX v) (i0 : Nat) (a1 : Int32) (a2 : Int32) (h_a1 : (0 : Int) ≤ a1.toInt ∧ a1.toInt ≤ (5 : Int)) (h_a2 : (0 : Int) ≤ a2.toInt ∧ a2.toInt ≤ (5 : Int)) : ok (g_X3_secretsCatching v i0 a1 a2) (fun z => (0 : Int) ≤ Int32.toInt z ∧ Int32.toInt z ≤ (63 : Int)) := by
  have loop5 : ∀ (n5 : Nat) (x3_5 : Int32) (x4_5 : Int32), ((0 : Int) ≤ Int32.toInt x3_5 ∧ Int32.toInt x3_5 ≤ (63 : Int)) → ((0 : Int) ≤ Int32.toInt x4_5 ∧ Int32.toInt x4_5 ≤ (6 : Int)) → (6 - Int32.toInt x4_5 < (n5 : Int)) → ok (g_X3_secretsCatching_L5  v i0 a1 a2 n5 x3_5 x4_5) (fun z => (0 : Int) ≤ Int32.toInt z ∧ Int32.toInt z ≤ (63 : Int)) := by
    intro n5
    induction n5 with
    | zero =>
      intro x3_5 x4_5 hv0_5 hv1_5 hm5
      exfalso
      omega
    | succ n5 ih5 =>
      intro x3_5 x4_5 hv0_5 hv1_5 hm5
      show ok (b_X3_secretsCatching_L5  (g_X3_secretsCatching_L5  v i0 a1 a2 n5) v i0 a1 a2 x3_5 x4_5) _
      unfold b_X3_secretsCatching_L5
      refine ok_ite _ (fun c1 => ?_) (fun c1 => ?_)
      · skip
        have ic1 := i_le c1
        have : (0 : Int) ≤ (v 6 i0 6).toInt ∧ (v 6 i0 6).toInt ≤ (6 : Int) := hI_v 6 i0 6
        refine ok_some ?_
        show (0 : Int) ≤ Int32.toInt x3_5 ∧ Int32.toInt x3_5 ≤ (63 : Int)
        omega
      · skip
        have ic1 := i_nle c1
        have : (0 : Int) ≤ (v 6 i0 6).toInt ∧ (v 6 i0 6).toInt ≤ (6 : Int) := hI_v 6 i0 6
        refine ok_bind (k_X2_catchesIf v hI_v i0 x4_5 a1 a2 (v 10 i0 4) (by omega) (by omega) (by omega) (by have : (0 : Int) ≤ (v 10 i0 4).toInt ∧ (v 10 i0 4).toInt ≤ (999 : Int) := hI_v 10 i0 4; omega)) (fun r3 hr3 => ?_)
        replace hr3 : (0 : Int) ≤ Int32.toInt r3 ∧ Int32.toInt r3 ≤ (1 : Int) := hr3
        obtain ⟨hr3_lo, hr3_hi⟩ := hr3
        refine ok_bind (k_X7_bit v hI_v r3 ) (fun r6 hr6 => ?_)
        replace hr6 : (0 : Int) ≤ Int32.toInt r6 ∧ Int32.toInt r6 ≤ (1 : Int) := hr6
        obtain ⟨hr6_lo, hr6_hi⟩ := hr6
        (try have := sp_shl (a := r6) (b := x4_5) (by omega) (by omega) (by omega) (by omega))
        (try have := sp_or64 (a := x3_5) (b := (r6 <<< (x4_5 &&& 31))) (by omega) (by omega) (by omega) (by omega))
        (try have := sp_or16 (a := x3_5) (b := (r6 <<< (x4_5 &&& 31))) (by omega) (by omega) (by omega) (by omega))
        have : (1 : Int32).toInt = 1 := (by decide)
        have := i_bd x4_5
        (first | have := sp_addx x4_5 (1 : Int32) (by omega) | obtain ⟨k1, hk1⟩ := sp_add x4_5 (1 : Int32))
        exact ih5 (x3_5 ||| (r6 <<< (x4_5 &&& 31))) (x4_5 + 1) (by omega) (by omega) (by omega)
  unfold g_X3_secretsCatching
  have : (0 : Int32).toInt = 0 := (by decide)
  exact loop5 2000 0 0 (by omega) (by omega) (by omega)
set_option maxHeartbeats 4000000 in
theorem k_X3_leftAtWorst (v : Mm) (hI_v : PW rgX v) (i0 : Nat) (a1 : Int32) (a2 : Int32) (h_a1 : (0 : Int) ≤ a1.toInt ∧ a1.toInt ≤ (35 : Int)) : ok (g_X3_leftAtWorst v i0 a1 a2) (fun z => True) := by
  unfold g_X3_leftAtWorst
  refine ok_bind (k_X3_secretsCatching v hI_v i0 (a1 / 6) (a1 - a1 / 6 * 6) (by have : (6 : Int32).toInt = 6 := (by decide); (try have : (a1 / 6).toInt = a1.toInt / 6 := (sp_div (a := a1) (b := (6 : Int32)) (by omega) (by omega)).trans (by rw [show (6 : Int32).toInt = 6 by decide])); omega) (by have : (6 : Int32).toInt = 6 := (by decide); (try have := sp_rem (a := a1) (b := (6 : Int32)) (by omega) (by omega)); omega)) (fun r2 hr2 => ?_)
  replace hr2 : (0 : Int) ≤ Int32.toInt r2 ∧ Int32.toInt r2 ≤ (63 : Int) := hr2
  obtain ⟨hr2_lo, hr2_hi⟩ := hr2
  refine ok_bind (k_J6_bitCount_0f7a4 v (a2 &&& r2) ) (fun r5 hr5 => ?_)
  replace hr5 : (0 : Int) ≤ Int32.toInt r5 ∧ Int32.toInt r5 ≤ (63 : Int) := hr5
  obtain ⟨hr5_lo, hr5_hi⟩ := hr5
  refine ok_bind (k_J6_bitCount_0f7a4 v a2 ) (fun r8 hr8 => ?_)
  replace hr8 : (0 : Int) ≤ Int32.toInt r8 ∧ Int32.toInt r8 ≤ (63 : Int) := hr8
  obtain ⟨hr8_lo, hr8_hi⟩ := hr8
  refine ok_let (fun x10 ex10 => ?_)
  have := i_bd r8
  have := i_bd r5
  (first | have := sp_subx r8 r5 (by omega) | obtain ⟨k1, hk1⟩ := sp_sub r8 r5)
  have := sp_itelt ex10
  refine ok_some ?_
  show True
  trivial
set_option maxHeartbeats 4000000 in
theorem k_X3_bestTry (v : Mm) (hI_v : PW rgX v) (i0 : Nat) (a1 : Int32) : ok (g_X3_bestTry v i0 a1) (fun z => (0 : Int) ≤ Int32.toInt z ∧ Int32.toInt z ≤ (35 : Int)) := by
  have loop12 : ∀ (n12 : Nat) (x2_12 : Int32) (x3_12 : Int32) (x4_12 : Int32), ((0 : Int) ≤ Int32.toInt x2_12 ∧ Int32.toInt x2_12 ≤ (35 : Int)) → ((1 : Int) ≤ Int32.toInt x4_12 ∧ Int32.toInt x4_12 ≤ (36 : Int)) → (36 - Int32.toInt x4_12 < (n12 : Int)) → ok (g_X3_bestTry_L12  v i0 a1 n12 x2_12 x3_12 x4_12) (fun z => (0 : Int) ≤ Int32.toInt z ∧ Int32.toInt z ≤ (35 : Int)) := by
    intro n12
    induction n12 with
    | zero =>
      intro x2_12 x3_12 x4_12 hv0_12 hv1_12 hm12
      exfalso
      omega
    | succ n12 ih12 =>
      intro x2_12 x3_12 x4_12 hv0_12 hv1_12 hm12
      show ok (b_X3_bestTry_L12  (g_X3_bestTry_L12  v i0 a1 n12) v i0 a1 x2_12 x3_12 x4_12) _
      unfold b_X3_bestTry_L12
      refine ok_ite _ (fun c1 => ?_) (fun c1 => ?_)
      · skip
        have ic1 := i_le c1
        have : (0 : Int) ≤ (v 6 i0 6).toInt ∧ (v 6 i0 6).toInt ≤ (6 : Int) := hI_v 6 i0 6
        have : (6 : Int32).toInt = 6 := (by decide)
        (first | have := sp_mulcx (v 6 i0 6) (6 : Int32) 6 (by decide) (by omega) | obtain ⟨k1, hk1⟩ := sp_mulc (v 6 i0 6) (6 : Int32) 6 (by decide))
        refine ok_some ?_
        show (0 : Int) ≤ Int32.toInt x2_12 ∧ Int32.toInt x2_12 ≤ (35 : Int)
        omega
      · skip
        have ic1 := i_nle c1
        have : (0 : Int) ≤ (v 6 i0 6).toInt ∧ (v 6 i0 6).toInt ≤ (6 : Int) := hI_v 6 i0 6
        have : (6 : Int32).toInt = 6 := (by decide)
        (first | have := sp_mulcx (v 6 i0 6) (6 : Int32) 6 (by decide) (by omega) | obtain ⟨k2, hk2⟩ := sp_mulc (v 6 i0 6) (6 : Int32) 6 (by decide))
        refine ok_bind (k_X3_leftAtWorst v hI_v i0 x4_12 a1 (by omega)) (fun r3 hr3 => ?_)
        clear hr3
        refine ok_ite _ (fun c5 => ?_) (fun c5 => ?_)
        · skip
          have ic5 := i_le c5
          have : (1 : Int32).toInt = 1 := (by decide)
          have := i_bd x4_12
          (first | have := sp_addx x4_12 (1 : Int32) (by omega) | obtain ⟨k3, hk3⟩ := sp_add x4_12 (1 : Int32))
          exact ih12 x2_12 x3_12 (x4_12 + 1) (by omega) (by omega) (by omega)
        · skip
          have ic5 := i_nle c5
          have : (1 : Int32).toInt = 1 := (by decide)
          have := i_bd x4_12
          (first | have := sp_addx x4_12 (1 : Int32) (by omega) | obtain ⟨k4, hk4⟩ := sp_add x4_12 (1 : Int32))
          exact ih12 x4_12 r3 (x4_12 + 1) (by omega) (by omega) (by omega)
  unfold g_X3_bestTry
  refine ok_bind (k_X3_leftAtWorst v hI_v i0 0 a1 (by have : (0 : Int32).toInt = 0 := (by decide); omega)) (fun r7 hr7 => ?_)
  clear hr7
  have : (0 : Int32).toInt = 0 := (by decide)
  have : (1 : Int32).toInt = 1 := (by decide)
  exact loop12 2000 0 r7 1 (by omega) (by omega) (by omega)
set_option maxHeartbeats 4000000 in
theorem k_X3_menToSplit (v : Mm) (hI_v : PW rgX v) (a1 : Int32) (a2 : Int32) (h_a1 : (0 : Int) ≤ a1.toInt ∧ a1.toInt ≤ (63 : Int)) (h_a2 : (0 : Int) ≤ a2.toInt ∧ a2.toInt ≤ (36 : Int)) : ok (g_X3_menToSplit v a1 a2) (fun z => (0 : Int) ≤ Int32.toInt z ∧ Int32.toInt z ≤ (1000 : Int)) := by
  have loop7 : ∀ (n7 : Nat) (x3_7 : Int32) (x4_7 : Int32), ((0 : Int) ≤ Int32.toInt x3_7 ∧ Int32.toInt x3_7 ≤ (1000 : Int)) → ((0 : Int) ≤ Int32.toInt x4_7 ∧ Int32.toInt x4_7 ≤ (36 : Int)) → (36 - Int32.toInt x4_7 < (n7 : Int)) → ok (g_X3_menToSplit_L7  v a1 a2 n7 x3_7 x4_7) (fun z => (0 : Int) ≤ Int32.toInt z ∧ Int32.toInt z ≤ (1000 : Int)) := by
    intro n7
    induction n7 with
    | zero =>
      intro x3_7 x4_7 hv0_7 hv1_7 hm7
      exfalso
      omega
    | succ n7 ih7 =>
      intro x3_7 x4_7 hv0_7 hv1_7 hm7
      show ok (b_X3_menToSplit_L7  (g_X3_menToSplit_L7  v a1 a2 n7) v a1 a2 x3_7 x4_7) _
      unfold b_X3_menToSplit_L7
      refine ok_ite _ (fun c1 => ?_) (fun c1 => ?_)
      · skip
        have ic1 := i_le c1
        refine ok_some ?_
        show (0 : Int) ≤ Int32.toInt x3_7 ∧ Int32.toInt x3_7 ≤ (1000 : Int)
        omega
      · skip
        have ic1 := i_nle c1
        refine ok_grd _ ?_ ?_
        · skip
          exact gr (by omega) (by omega)
        refine ok_let (fun x3 ex3 => ?_)
        have : (0 : Int) ≤ (v 19 0 (Int32.toNatClampNeg x4_7)).toInt ∧ (v 19 0 (Int32.toNatClampNeg x4_7)).toInt ≤ (63 : Int) := hI_v 19 0 (Int32.toNatClampNeg x4_7)
        (try have := sp_andl (a := a1) (b := (v 19 0 (Int32.toNatClampNeg x4_7))) (by omega) (by omega))
        (try have := sp_and64 (a := a1) (b := (v 19 0 (Int32.toNatClampNeg x4_7))) (by omega) (by omega) (by omega) (by omega))
        have := i_eq ex3
        refine ok_ite _ (fun c4 => ?_) (fun c4 => ?_)
        · skip
          have ic4 := i_eq c4
          have : (0 : Int32).toInt = 0 := (by decide)
          have : (1 : Int32).toInt = 1 := (by decide)
          have := i_bd x4_7
          (first | have := sp_addx x4_7 (1 : Int32) (by omega) | obtain ⟨k1, hk1⟩ := sp_add x4_7 (1 : Int32))
          exact ih7 x3_7 (x4_7 + 1) (by omega) (by omega) (by omega)
        · skip
          have ic4 := i_ne c4
          have : (0 : Int32).toInt = 0 := (by decide)
          refine ok_ite _ (fun c5 => ?_) (fun c5 => ?_)
          · skip
            have ic5 := i_eq c5
            have : (1 : Int32).toInt = 1 := (by decide)
            have := i_bd x4_7
            (first | have := sp_addx x4_7 (1 : Int32) (by omega) | obtain ⟨k2, hk2⟩ := sp_add x4_7 (1 : Int32))
            exact ih7 x3_7 (x4_7 + 1) (by omega) (by omega) (by omega)
          · skip
            have ic5 := i_ne c5
            refine ok_grd _ ?_ ?_
            · skip
              exact gr (by omega) (by omega)
            refine ok_grd _ ?_ ?_
            · skip
              (try have := sp_xor64 (a := a1) (b := x3) (by omega) (by omega) (by omega) (by omega))
              (try have := sp_xor16 (a := a1) (b := x3) (by omega) (by omega) (by omega) (by omega))
              exact gr (by omega) (by omega)
            refine ok_let (fun x8 ex8 => ?_)
            have : (0 : Int) ≤ (v 20 0 (Int32.toNatClampNeg x3)).toInt ∧ (v 20 0 (Int32.toNatClampNeg x3)).toInt ≤ (1000 : Int) := hI_v 20 0 (Int32.toNatClampNeg x3)
            have : (0 : Int) ≤ (v 20 0 (Int32.toNatClampNeg (a1 ^^^ x3))).toInt ∧ (v 20 0 (Int32.toNatClampNeg (a1 ^^^ x3))).toInt ≤ (1000 : Int) := hI_v 20 0 (Int32.toNatClampNeg (a1 ^^^ x3))
            have := sp_itelt ex8
            refine ok_let (fun x9 ex9 => ?_)
            have : (1 : Int32).toInt = 1 := (by decide)
            have := i_bd x8
            (first | have := sp_addx (1 : Int32) x8 (by omega) | obtain ⟨k3, hk3⟩ := sp_add (1 : Int32) x8)
            have := sp_itelt ex9
            have : (1 : Int32).toInt = 1 := (by decide)
            have := i_bd x4_7
            (first | have := sp_addx x4_7 (1 : Int32) (by omega) | obtain ⟨k4, hk4⟩ := sp_add x4_7 (1 : Int32))
            exact ih7 x9 (x4_7 + 1) (by omega) (by omega) (by omega)
  unfold g_X3_menToSplit
  have : (1000 : Int32).toInt = 1000 := (by decide)
  have : (0 : Int32).toInt = 0 := (by decide)
  exact loop7 2000 1000 0 (by omega) (by omega) (by omega)
set_option maxHeartbeats 4000000 in
theorem k_X3_fewestMen (v : Mm) (hI_v : PW rgX v) (i1 : Nat) (a2 : Int32) (h_a2 : (0 : Int) ≤ a2.toInt ∧ a2.toInt ≤ (63 : Int)) : ok (g_X3_fewestMen v i1 a2) (fun z => PW rgX z.2) := by
  have loop47 : ∀ (n47 : Nat) (w47 : Mm) (x3_47 : Int32) (x4_47 : Int32), (PW rgX w47) → ((0 : Int) ≤ Int32.toInt x3_47 ∧ Int32.toInt x3_47 ≤ (36 : Int)) → ((0 : Int) ≤ Int32.toInt x4_47 ∧ Int32.toInt x4_47 ≤ (64 : Int)) → (64 - Int32.toInt x4_47 < (n47 : Int)) → ok (g_X3_fewestMen_L47  i1 a2 n47 w47 x3_47 x4_47) (fun z => PW rgX z.2) := by
    intro n47
    induction n47 with
    | zero =>
      intro w47 x3_47 x4_47 hI_w47 hv0_47 hv1_47 hm47
      exfalso
      omega
    | succ n47 ih47 =>
      intro w47 x3_47 x4_47 hI_w47 hv0_47 hv1_47 hm47
      show ok (b_X3_fewestMen_L47  (g_X3_fewestMen_L47  i1 a2 n47) i1 a2 w47 x3_47 x4_47) _
      unfold b_X3_fewestMen_L47
      refine ok_ite _ (fun c1 => ?_) (fun c1 => ?_)
      · skip
        have ic1 := i_le c1
        have : (1 : Int32).toInt = 1 := (by decide)
        have : (0 : Int) ≤ (w47 6 i1 6).toInt ∧ (w47 6 i1 6).toInt ≤ (6 : Int) := hI_w47 6 i1 6
        (try have := sp_shl4 (b := (w47 6 i1 6)) (by omega) (by omega))
        (try have := sp_shl5 (b := (w47 6 i1 6)) (by omega) (by omega))
        (try have := sp_shl7 (b := (w47 6 i1 6)) (by omega) (by omega))
        (try have := sp_shl (a := (1 : Int32)) (b := (w47 6 i1 6)) (by omega) (by omega) (by omega) (by omega))
        refine ok_grd _ ?_ ?_
        · skip
          exact gr (by omega) (by omega)
        refine ok_ite _ (fun c3 => ?_) (fun c3 => ?_)
        · skip
          have ic3 := i_le c3
          have : (0 : Int) ≤ (w47 20 0 (Int32.toNatClampNeg a2)).toInt ∧ (w47 20 0 (Int32.toNatClampNeg a2)).toInt ≤ (1000 : Int) := hI_w47 20 0 (Int32.toNatClampNeg a2)
          have : (1000 : Int32).toInt = 1000 := (by decide)
          refine ok_some ?_
          show PW rgX w47
          have : (-1000000 : Int32).toInt = -1000000 := (by decide)
          exact hI_w47
        · skip
          have ic3 := i_nle c3
          have : (0 : Int) ≤ (w47 20 0 (Int32.toNatClampNeg a2)).toInt ∧ (w47 20 0 (Int32.toNatClampNeg a2)).toInt ≤ (1000 : Int) := hI_w47 20 0 (Int32.toNatClampNeg a2)
          have : (1000 : Int32).toInt = 1000 := (by decide)
          refine ok_grd _ ?_ ?_
          · skip
            exact gr (by omega) (by omega)
          refine ok_some ?_
          show PW rgX w47
          have : (0 : Int) ≤ (w47 20 0 (Int32.toNatClampNeg a2)).toInt ∧ (w47 20 0 (Int32.toNatClampNeg a2)).toInt ≤ (1000 : Int) := hI_w47 20 0 (Int32.toNatClampNeg a2)
          exact hI_w47
      · skip
        have ic1 := i_nle c1
        have : (1 : Int32).toInt = 1 := (by decide)
        have : (0 : Int) ≤ (w47 6 i1 6).toInt ∧ (w47 6 i1 6).toInt ≤ (6 : Int) := hI_w47 6 i1 6
        (try have := sp_shl4 (b := (w47 6 i1 6)) (by omega) (by omega))
        (try have := sp_shl5 (b := (w47 6 i1 6)) (by omega) (by omega))
        (try have := sp_shl7 (b := (w47 6 i1 6)) (by omega) (by omega))
        (try have := sp_shl (a := (1 : Int32)) (b := (w47 6 i1 6)) (by omega) (by omega) (by omega) (by omega))
        refine ok_bind (k_J6_bitCount_0f7a4 w47 x4_47 ) (fun r6 hr6 => ?_)
        replace hr6 : (0 : Int) ≤ Int32.toInt r6 ∧ Int32.toInt r6 ≤ (63 : Int) := hr6
        obtain ⟨hr6_lo, hr6_hi⟩ := hr6
        refine ok_ite _ (fun c8 => ?_) (fun c8 => ?_)
        · skip
          have ic8 := i_lt c8
          have : (1 : Int32).toInt = 1 := (by decide)
          refine ok_bind (k_X3_menToSplit w47 hI_w47 x4_47 x3_47 (by omega) (by omega)) (fun r10 hr10 => ?_)
          replace hr10 : (0 : Int) ≤ Int32.toInt r10 ∧ Int32.toInt r10 ≤ (1000 : Int) := hr10
          obtain ⟨hr10_lo, hr10_hi⟩ := hr10
          refine ok_grd _ ?_ ?_
          · skip
            exact gr (by omega) (by omega)
          refine ok_let (fun v13 ev13 => ?_)
          have hI_v13 : PW rgX v13 := by
            rw [ev13]
            refine hI_w47.up ?_
            show (0 : Int) ≤ Int32.toInt r10 ∧ Int32.toInt r10 ≤ (1000 : Int)
            omega
          have := i_eq (show v13 6 i1 6 = w47 6 i1 6 by rw [ev13]; exact up3_t (by decide))
          have : (1 : Int32).toInt = 1 := (by decide)
          have := i_bd x4_47
          (first | have := sp_addx x4_47 (1 : Int32) (by omega) | obtain ⟨k1, hk1⟩ := sp_add x4_47 (1 : Int32))
          exact ih47 v13 x3_47 (x4_47 + 1) hI_v13 (by omega) (by omega) (by omega)
        · skip
          have ic8 := i_nlt c8
          have : (1 : Int32).toInt = 1 := (by decide)
          refine ok_grd _ ?_ ?_
          · skip
            exact gr (by omega) (by omega)
          refine ok_let (fun v15 ev15 => ?_)
          have hI_v15 : PW rgX v15 := by
            rw [ev15]
            refine hI_w47.up ?_
            show (0 : Int) ≤ Int32.toInt (0 : Int32) ∧ Int32.toInt (0 : Int32) ≤ (1000 : Int)
            have : (0 : Int32).toInt = 0 := (by decide)
            omega
          have := i_eq (show v15 6 i1 6 = w47 6 i1 6 by rw [ev15]; exact up3_t (by decide))
          have : (1 : Int32).toInt = 1 := (by decide)
          have := i_bd x4_47
          (first | have := sp_addx x4_47 (1 : Int32) (by omega) | obtain ⟨k2, hk2⟩ := sp_add x4_47 (1 : Int32))
          exact ih47 v15 x3_47 (x4_47 + 1) hI_v15 (by omega) (by omega) (by omega)
  have loop11 : ∀ (n11 : Nat) (w11 : Mm) (x3_11 : Int32) (x4_11 : Int32), (PW rgX w11) → ((0 : Int) ≤ Int32.toInt x3_11 ∧ Int32.toInt x3_11 ≤ (36 : Int)) → ((0 : Int) ≤ Int32.toInt x4_11 ∧ Int32.toInt x4_11 ≤ (36 : Int)) → (36 - Int32.toInt x4_11 < (n11 : Int)) → ok (g_X3_fewestMen_L11  i1 a2 n11 w11 x3_11 x4_11) (fun z => PW rgX z.2) := by
    intro n11
    induction n11 with
    | zero =>
      intro w11 x3_11 x4_11 hI_w11 hv0_11 hv1_11 hm11
      exfalso
      omega
    | succ n11 ih11 =>
      intro w11 x3_11 x4_11 hI_w11 hv0_11 hv1_11 hm11
      show ok (b_X3_fewestMen_L11  (g_X3_fewestMen_L11  i1 a2 n11) i1 a2 w11 x3_11 x4_11) _
      unfold b_X3_fewestMen_L11
      refine ok_ite _ (fun c16 => ?_) (fun c16 => ?_)
      · skip
        have ic16 := i_le c16
        have : (0 : Int32).toInt = 0 := (by decide)
        exact loop47 2000 w11 x3_11 0 hI_w11 (by omega) (by omega) (by omega)
      · skip
        have ic16 := i_nle c16
        refine ok_bind (k_X3_secretsCatching w11 hI_w11 i1 (x4_11 / 6) (x4_11 - x4_11 / 6 * 6) (by have : (6 : Int32).toInt = 6 := (by decide); (try have : (x4_11 / 6).toInt = x4_11.toInt / 6 := (sp_div (a := x4_11) (b := (6 : Int32)) (by omega) (by omega)).trans (by rw [show (6 : Int32).toInt = 6 by decide])); omega) (by have : (6 : Int32).toInt = 6 := (by decide); (try have := sp_rem (a := x4_11) (b := (6 : Int32)) (by omega) (by omega)); omega)) (fun r18 hr18 => ?_)
        replace hr18 : (0 : Int) ≤ Int32.toInt r18 ∧ Int32.toInt r18 ≤ (63 : Int) := hr18
        obtain ⟨hr18_lo, hr18_hi⟩ := hr18
        refine ok_grd _ ?_ ?_
        · skip
          exact gr (by omega) (by omega)
        refine ok_let (fun v21 ev21 => ?_)
        have hI_v21 : PW rgX v21 := by
          rw [ev21]
          refine hI_w11.up ?_
          show (0 : Int) ≤ Int32.toInt r18 ∧ Int32.toInt r18 ≤ (63 : Int)
          omega
        have := i_eq (show v21 6 i1 6 = w11 6 i1 6 by rw [ev21]; exact up3_t (by decide))
        have : (1 : Int32).toInt = 1 := (by decide)
        have := i_bd x4_11
        (first | have := sp_addx x4_11 (1 : Int32) (by omega) | obtain ⟨k3, hk3⟩ := sp_add x4_11 (1 : Int32))
        exact ih11 v21 x3_11 (x4_11 + 1) hI_v21 (by omega) (by omega) (by omega)
  unfold g_X3_fewestMen
  have : (0 : Int) ≤ (v 6 i1 6).toInt ∧ (v 6 i1 6).toInt ≤ (6 : Int) := hI_v 6 i1 6
  have : (6 : Int32).toInt = 6 := (by decide)
  (first | have := sp_mulcx (v 6 i1 6) (6 : Int32) 6 (by decide) (by omega) | obtain ⟨k4, hk4⟩ := sp_mulc (v 6 i1 6) (6 : Int32) 6 (by decide))
  have : (0 : Int32).toInt = 0 := (by decide)
  exact loop11 2000 v ((v 6 i1 6) * 6) 0 hI_v (by omega) (by omega) (by omega)
set_option maxHeartbeats 4000000 in
theorem k_X4_begin (v : Mm) (hI_v : PW rgX v) (i0 : Nat) (a1 : Int32) (h_a1 : (0 : Int) ≤ a1.toInt ∧ a1.toInt ≤ (4 : Int)) : ok (g_X4_begin v i0 a1) (fun z => PW rgX z) := by
  have loop21 : ∀ (n21 : Nat) (w21 : Mm) (x2_21 : Int32), (PW rgX w21) → ((0 : Int) ≤ Int32.toInt x2_21 ∧ Int32.toInt x2_21 ≤ (4 : Int)) → (4 - Int32.toInt x2_21 < (n21 : Int)) → ok (g_X4_begin_L21  i0 a1 n21 w21 x2_21) (fun z => PW rgX z) := by
    intro n21
    induction n21 with
    | zero =>
      intro w21 x2_21 hI_w21 hv0_21 hm21
      exfalso
      omega
    | succ n21 ih21 =>
      intro w21 x2_21 hI_w21 hv0_21 hm21
      show ok (b_X4_begin_L21  (g_X4_begin_L21  i0 a1 n21) i0 a1 w21 x2_21) _
      unfold b_X4_begin_L21
      refine ok_ite _ (fun c1 => ?_) (fun c1 => ?_)
      · skip
        have ic1 := i_le c1
        have : (4 : Int32).toInt = 4 := (by decide)
        refine ok_some ?_
        show PW rgX w21
        exact hI_w21
      · skip
        have ic1 := i_nle c1
        have : (4 : Int32).toInt = 4 := (by decide)
        refine ok_grd _ ?_ ?_
        · skip
          exact gr (by omega) (by omega)
        refine ok_let (fun v3 ev3 => ?_)
        have hI_v3 : PW rgX v3 := by rw [ev3]; exact hI_w21.up (by have h9 := i_bd (0 : Int32); exact ⟨h9.1, Int.le_of_lt_add_one h9.2⟩)
        have := i_eq (show v3 10 i0 4 = w21 10 i0 4 by rw [ev3]; exact up3_t (by decide))
        have := i_eq (show v3 10 i0 6 = w21 10 i0 6 by rw [ev3]; exact up3_t (by decide))
        have := i_eq (show v3 10 i0 7 = w21 10 i0 7 by rw [ev3]; exact up3_t (by decide))
        have : (1 : Int32).toInt = 1 := (by decide)
        have := i_bd x2_21
        (first | have := sp_addx x2_21 (1 : Int32) (by omega) | obtain ⟨k1, hk1⟩ := sp_add x2_21 (1 : Int32))
        exact ih21 v3 (x2_21 + 1) hI_v3 (by omega) (by omega)
  unfold g_X4_begin
  refine ok_let (fun v4 ev4 => ?_)
  have hI_v4 : PW rgX v4 := by
    rw [ev4]
    refine hI_v.up ?_
    show (0 : Int) ≤ Int32.toInt (0 : Int32) ∧ Int32.toInt (0 : Int32) ≤ (999 : Int)
    have : (0 : Int32).toInt = 0 := (by decide)
    omega
  have := i_eq (show v4 10 i0 4 = 0 by rw [ev4]; exact up3_s)
  have : (0 : Int32).toInt = 0 := (by decide)
  have := i_eq (show v4 10 i0 6 = v 10 i0 6 by rw [ev4]; exact up3_j (by decide))
  have := i_eq (show v4 10 i0 7 = v 10 i0 7 by rw [ev4]; exact up3_j (by decide))
  refine ok_let (fun v5 ev5 => ?_)
  have hI_v5 : PW rgX v5 := by
    rw [ev5]
    refine hI_v4.up ?_
    show (0 : Int) ≤ Int32.toInt (((1 : Int32) <<< (a1 &&& 31)) - 1) ∧ Int32.toInt (((1 : Int32) <<< (a1 &&& 31)) - 1) ≤ (15 : Int)
    have : (1 : Int32).toInt = 1 := (by decide)
    (try have := sp_shl4 (b := a1) (by omega) (by omega))
    (try have := sp_shl5 (b := a1) (by omega) (by omega))
    (try have := sp_shl7 (b := a1) (by omega) (by omega))
    (try have := sp_shl (a := (1 : Int32)) (b := a1) (by omega) (by omega) (by omega) (by omega))
    have : (1 : Int32).toInt = 1 := (by decide)
    (first | have := sp_subx ((1 : Int32) <<< (a1 &&& 31)) (1 : Int32) (by omega) | obtain ⟨k2, hk2⟩ := sp_sub ((1 : Int32) <<< (a1 &&& 31)) (1 : Int32))
    omega
  have := i_eq (show v5 10 i0 4 = v4 10 i0 4 by rw [ev5]; exact up3_j (by decide))
  have := i_eq (show v5 10 i0 6 = (((1 : Int32) <<< (a1 &&& 31)) - 1) by rw [ev5]; exact up3_s)
  have : (1 : Int32).toInt = 1 := (by decide)
  (try have := sp_shl4 (b := a1) (by omega) (by omega))
  (try have := sp_shl5 (b := a1) (by omega) (by omega))
  (try have := sp_shl7 (b := a1) (by omega) (by omega))
  (try have := sp_shl (a := (1 : Int32)) (b := a1) (by omega) (by omega) (by omega) (by omega))
  have : (1 : Int32).toInt = 1 := (by decide)
  (first | have := sp_subx ((1 : Int32) <<< (a1 &&& 31)) (1 : Int32) (by omega) | obtain ⟨k3, hk3⟩ := sp_sub ((1 : Int32) <<< (a1 &&& 31)) (1 : Int32))
  have := i_eq (show v5 10 i0 7 = v4 10 i0 7 by rw [ev5]; exact up3_j (by decide))
  refine ok_let (fun v6 ev6 => ?_)
  have hI_v6 : PW rgX v6 := by
    rw [ev6]
    refine hI_v5.up ?_
    show (0 : Int) ≤ Int32.toInt (0 : Int32) ∧ Int32.toInt (0 : Int32) ≤ (9 : Int)
    have : (0 : Int32).toInt = 0 := (by decide)
    omega
  have := i_eq (show v6 10 i0 4 = v5 10 i0 4 by rw [ev6]; exact up3_j (by decide))
  have := i_eq (show v6 10 i0 6 = v5 10 i0 6 by rw [ev6]; exact up3_j (by decide))
  have := i_eq (show v6 10 i0 7 = 0 by rw [ev6]; exact up3_s)
  have : (0 : Int32).toInt = 0 := (by decide)
  have : (0 : Int32).toInt = 0 := (by decide)
  exact loop21 2000 v6 0 hI_v6 (by omega) (by omega)
set_option maxHeartbeats 4000000 in
theorem k_X4_goBy (v : Mm) (hI_v : PW rgX v) (i0 : Nat) (hx0 : Int32.toInt (v 10 i0 4) ≤ 998) : ok (g_X4_goBy v i0) (fun z => PW rgX z ∧ (Int32.toInt (z 10 i0 4) = Int32.toInt (v 10 i0 4) + 1)) := by
  have : (0 : Int) ≤ (v 10 i0 4).toInt ∧ (v 10 i0 4).toInt ≤ (999 : Int) := hI_v 10 i0 4
  unfold g_X4_goBy
  have : (0 : Int) ≤ (v 10 i0 4).toInt ∧ (v 10 i0 4).toInt ≤ (999 : Int) := hI_v 10 i0 4
  refine ok_let (fun v1 ev1 => ?_)
  have hI_v1 : PW rgX v1 := by
    rw [ev1]
    refine hI_v.up ?_
    show (0 : Int) ≤ Int32.toInt ((v 10 i0 4) + 1) ∧ Int32.toInt ((v 10 i0 4) + 1) ≤ (999 : Int)
    have : (0 : Int) ≤ (v 10 i0 4).toInt ∧ (v 10 i0 4).toInt ≤ (999 : Int) := hI_v 10 i0 4
    have : (1 : Int32).toInt = 1 := (by decide)
    have := i_bd (v 10 i0 4)
    (first | have := sp_addx (v 10 i0 4) (1 : Int32) (by omega) | obtain ⟨k1, hk1⟩ := sp_add (v 10 i0 4) (1 : Int32))
    omega
  have := i_eq (show v1 10 i0 4 = ((v 10 i0 4) + 1) by rw [ev1]; exact up3_s)
  have : (0 : Int) ≤ (v 10 i0 4).toInt ∧ (v 10 i0 4).toInt ≤ (999 : Int) := hI_v 10 i0 4
  have : (1 : Int32).toInt = 1 := (by decide)
  have := i_bd (v 10 i0 4)
  (first | have := sp_addx (v 10 i0 4) (1 : Int32) (by omega) | obtain ⟨k2, hk2⟩ := sp_add (v 10 i0 4) (1 : Int32))
  have := i_eq (show v1 10 i0 7 = v 10 i0 7 by rw [ev1]; exact up3_j (by decide))
  refine ok_let (fun v2 ev2 => ?_)
  have hI_v2 : PW rgX v2 := by
    rw [ev2]
    refine hI_v1.up ?_
    show (0 : Int) ≤ Int32.toInt (0 : Int32) ∧ Int32.toInt (0 : Int32) ≤ (9 : Int)
    have : (0 : Int32).toInt = 0 := (by decide)
    omega
  have := i_eq (show v2 10 i0 4 = v1 10 i0 4 by rw [ev2]; exact up3_j (by decide))
  have := i_eq (show v2 10 i0 7 = 0 by rw [ev2]; exact up3_s)
  have : (0 : Int32).toInt = 0 := (by decide)
  refine ok_some ?_
  show PW rgX v2 ∧ (Int32.toInt (v2 10 i0 4) = Int32.toInt (v 10 i0 4) + 1)
  refine ⟨hI_v2, ?_⟩
  omega
set_option maxHeartbeats 4000000 in
theorem k_X4_addTry (v : Mm) (hI_v : PW rgX v) (i0 : Nat) (a1 : Int32) (a2 : Int32) (a3 : Int32) (h_a1 : (0 : Int) ≤ a1.toInt ∧ a1.toInt ≤ (5 : Int)) : ok (g_X4_addTry v i0 a1 a2 a3) (fun z => PW rgX z) := by
  unfold g_X4_addTry
  refine ok_ite _ (fun c1 => ?_) (fun c1 => ?_)
  · skip
    have ic1 := i_lt c1
    have : (0 : Int) ≤ (v 10 i0 7).toInt ∧ (v 10 i0 7).toInt ≤ (9 : Int) := hI_v 10 i0 7
    have : (9 : Int32).toInt = 9 := (by decide)
    refine ok_grd _ ?_ ?_
    · skip
      have : (0 : Int) ≤ (v 10 i0 7).toInt ∧ (v 10 i0 7).toInt ≤ (9 : Int) := hI_v 10 i0 7
      exact gr (by omega) (by omega)
    refine ok_let (fun v3 ev3 => ?_)
    have : (0 : Int) ≤ (v 10 i0 7).toInt ∧ (v 10 i0 7).toInt ≤ (9 : Int) := hI_v 10 i0 7
    have hI_v3 : PW rgX v3 := by
      rw [ev3]
      refine hI_v.up ?_
      show (0 : Int) ≤ Int32.toInt a1 ∧ Int32.toInt a1 ≤ (5 : Int)
      omega
    have := i_eq (show v3 10 i0 7 = v 10 i0 7 by rw [ev3]; exact up3_t (by decide))
    refine ok_grd _ ?_ ?_
    · skip
      have : (0 : Int) ≤ (v3 10 i0 7).toInt ∧ (v3 10 i0 7).toInt ≤ (9 : Int) := hI_v3 10 i0 7
      exact gr (by omega) (by omega)
    refine ok_let (fun v5 ev5 => ?_)
    have : (0 : Int) ≤ (v3 10 i0 7).toInt ∧ (v3 10 i0 7).toInt ≤ (9 : Int) := hI_v3 10 i0 7
    have hI_v5 : PW rgX v5 := by rw [ev5]; exact hI_v3.up (by have h9 := i_bd a2; exact ⟨h9.1, Int.le_of_lt_add_one h9.2⟩)
    have := i_eq (show v5 10 i0 7 = v3 10 i0 7 by rw [ev5]; exact up3_t (by decide))
    refine ok_bind (k_X7_bit v5 hI_v5 a3 ) (fun r7 hr7 => ?_)
    replace hr7 : (0 : Int) ≤ Int32.toInt r7 ∧ Int32.toInt r7 ≤ (1 : Int) := hr7
    obtain ⟨hr7_lo, hr7_hi⟩ := hr7
    refine ok_grd _ ?_ ?_
    · skip
      have : (0 : Int) ≤ (v5 10 i0 7).toInt ∧ (v5 10 i0 7).toInt ≤ (9 : Int) := hI_v5 10 i0 7
      exact gr (by omega) (by omega)
    refine ok_let (fun v10 ev10 => ?_)
    have : (0 : Int) ≤ (v5 10 i0 7).toInt ∧ (v5 10 i0 7).toInt ≤ (9 : Int) := hI_v5 10 i0 7
    have hI_v10 : PW rgX v10 := by rw [ev10]; exact hI_v5.up (by have h9 := i_bd r7; exact ⟨h9.1, Int.le_of_lt_add_one h9.2⟩)
    have := i_eq (show v10 10 i0 7 = v5 10 i0 7 by rw [ev10]; exact up3_t (by decide))
    refine ok_let (fun v11 ev11 => ?_)
    have hI_v11 : PW rgX v11 := by
      rw [ev11]
      refine hI_v10.up ?_
      show (0 : Int) ≤ Int32.toInt ((v10 10 i0 7) + 1) ∧ Int32.toInt ((v10 10 i0 7) + 1) ≤ (9 : Int)
      have : (0 : Int) ≤ (v10 10 i0 7).toInt ∧ (v10 10 i0 7).toInt ≤ (9 : Int) := hI_v10 10 i0 7
      have : (1 : Int32).toInt = 1 := (by decide)
      have := i_bd (v10 10 i0 7)
      (first | have := sp_addx (v10 10 i0 7) (1 : Int32) (by omega) | obtain ⟨k1, hk1⟩ := sp_add (v10 10 i0 7) (1 : Int32))
      omega
    have := i_eq (show v11 10 i0 7 = ((v10 10 i0 7) + 1) by rw [ev11]; exact up3_s)
    have : (0 : Int) ≤ (v10 10 i0 7).toInt ∧ (v10 10 i0 7).toInt ≤ (9 : Int) := hI_v10 10 i0 7
    have : (1 : Int32).toInt = 1 := (by decide)
    have := i_bd (v10 10 i0 7)
    (first | have := sp_addx (v10 10 i0 7) (1 : Int32) (by omega) | obtain ⟨k2, hk2⟩ := sp_add (v10 10 i0 7) (1 : Int32))
    refine ok_ite _ (fun c12 => ?_) (fun c12 => ?_)
    · skip
      have ic12 := i_eq c12
      have : (0 : Int32).toInt = 0 := (by decide)
      refine ok_some ?_
      show PW rgX v11
      exact hI_v11
    · skip
      have ic12 := i_ne c12
      have : (0 : Int32).toInt = 0 := (by decide)
      refine ok_ite _ (fun c13 => ?_) (fun c13 => ?_)
      · skip
        have ic13 := i_lt c13
        have : (0 : Int32).toInt = 0 := (by decide)
        refine ok_some ?_
        show PW rgX v11
        exact hI_v11
      · skip
        have ic13 := i_nlt c13
        have : (0 : Int32).toInt = 0 := (by decide)
        refine ok_ite _ (fun c14 => ?_) (fun c14 => ?_)
        · skip
          have ic14 := i_le c14
          have : (4 : Int32).toInt = 4 := (by decide)
          refine ok_some ?_
          show PW rgX v11
          exact hI_v11
        · skip
          have ic14 := i_nle c14
          have : (4 : Int32).toInt = 4 := (by decide)
          refine ok_grd _ ?_ ?_
          · skip
            exact gr (by omega) (by omega)
          refine ok_grd _ ?_ ?_
          · skip
            exact gr (by omega) (by omega)
          refine ok_let (fun v17 ev17 => ?_)
          have hI_v17 : PW rgX v17 := by rw [ev17]; exact hI_v11.up (by have h9 := i_bd ((v11 11 i0 (Int32.toNatClampNeg a2)) + 1); exact ⟨h9.1, Int.le_of_lt_add_one h9.2⟩)
          have := i_eq (show v17 10 i0 7 = v11 10 i0 7 by rw [ev17]; exact up3_t (by decide))
          refine ok_some ?_
          show PW rgX v17
          exact hI_v17
  · skip
    have ic1 := i_nlt c1
    have : (0 : Int) ≤ (v 10 i0 7).toInt ∧ (v 10 i0 7).toInt ≤ (9 : Int) := hI_v 10 i0 7
    have : (9 : Int32).toInt = 9 := (by decide)
    refine ok_some ?_
    show PW rgX v
    exact hI_v
set_option maxHeartbeats 4000000 in
theorem k_X4_tookInAll (v : Mm) (hI_v : PW rgX v) (i0 : Nat) : ok (g_X4_tookInAll v i0) (fun z => True) := by
  have loop4 : ∀ (n4 : Nat) (x1_4 : Int32) (x2_4 : Int32), ((0 : Int) ≤ Int32.toInt x2_4 ∧ Int32.toInt x2_4 ≤ (4 : Int)) → (4 - Int32.toInt x2_4 < (n4 : Int)) → ok (g_X4_tookInAll_L4  v i0 n4 x1_4 x2_4) (fun z => True) := by
    intro n4
    induction n4 with
    | zero =>
      intro x1_4 x2_4 hv0_4 hm4
      exfalso
      omega
    | succ n4 ih4 =>
      intro x1_4 x2_4 hv0_4 hm4
      show ok (b_X4_tookInAll_L4  (g_X4_tookInAll_L4  v i0 n4) v i0 x1_4 x2_4) _
      unfold b_X4_tookInAll_L4
      refine ok_ite _ (fun c1 => ?_) (fun c1 => ?_)
      · skip
        have ic1 := i_le c1
        have : (4 : Int32).toInt = 4 := (by decide)
        refine ok_some ?_
        show True
        trivial
      · skip
        have ic1 := i_nle c1
        have : (4 : Int32).toInt = 4 := (by decide)
        refine ok_grd _ ?_ ?_
        · skip
          exact gr (by omega) (by omega)
        refine ok_let (fun x3 ex3 => ?_)
        have := i_bd x1_4
        have := i_bd (v 11 i0 (Int32.toNatClampNeg x2_4))
        (first | have := sp_addx x1_4 (v 11 i0 (Int32.toNatClampNeg x2_4)) (by omega) | obtain ⟨k1, hk1⟩ := sp_add x1_4 (v 11 i0 (Int32.toNatClampNeg x2_4)))
        have := i_eq ex3
        have : (1 : Int32).toInt = 1 := (by decide)
        have := i_bd x2_4
        (first | have := sp_addx x2_4 (1 : Int32) (by omega) | obtain ⟨k2, hk2⟩ := sp_add x2_4 (1 : Int32))
        exact ih4 x3 (x2_4 + 1) (by omega) (by omega)
  unfold g_X4_tookInAll
  have : (0 : Int32).toInt = 0 := (by decide)
  exact loop4 2000 0 0 (by omega) (by omega)
set_option maxHeartbeats 4000000 in
theorem k_X5_make (v : Mm) (hI_v : PW rgX v) (i0 : Nat) (a1 : Int32) (a2 : Int32) (h_a2 : (0 : Int) ≤ a2.toInt ∧ a2.toInt ≤ (40 : Int)) : ok (g_X5_make v i0 a1 a2) (fun z => PW rgX z) := by
  have loop12 : ∀ (n12 : Nat) (w12 : Mm) (x3_12 : Int32), (PW rgX w12) → ((0 : Int) ≤ Int32.toInt x3_12 ∧ Int32.toInt x3_12 ≤ (40 : Int)) → (40 - Int32.toInt x3_12 < (n12 : Int)) → ok (g_X5_make_L12  i0 a1 a2 n12 w12 x3_12) (fun z => PW rgX z) := by
    intro n12
    induction n12 with
    | zero =>
      intro w12 x3_12 hI_w12 hv0_12 hm12
      exfalso
      omega
    | succ n12 ih12 =>
      intro w12 x3_12 hI_w12 hv0_12 hm12
      show ok (b_X5_make_L12  (g_X5_make_L12  i0 a1 a2 n12) i0 a1 a2 w12 x3_12) _
      unfold b_X5_make_L12
      refine ok_ite _ (fun c1 => ?_) (fun c1 => ?_)
      · skip
        have ic1 := i_le c1
        have : (40 : Int32).toInt = 40 := (by decide)
        refine ok_some ?_
        show PW rgX w12
        exact hI_w12
      · skip
        have ic1 := i_nle c1
        have : (40 : Int32).toInt = 40 := (by decide)
        refine ok_grd _ ?_ ?_
        · skip
          exact gr (by omega) (by omega)
        refine ok_let (fun v3 ev3 => ?_)
        have hI_v3 : PW rgX v3 := by rw [ev3]; exact hI_w12.up (by have h9 := i_bd (0 : Int32); exact ⟨h9.1, Int.le_of_lt_add_one h9.2⟩)
        have := i_eq (show v3 2 i0 1 = w12 2 i0 1 by rw [ev3]; exact up3_t (by decide))
        have := i_eq (show v3 2 i0 2 = w12 2 i0 2 by rw [ev3]; exact up3_t (by decide))
        have : (1 : Int32).toInt = 1 := (by decide)
        have := i_bd x3_12
        (first | have := sp_addx x3_12 (1 : Int32) (by omega) | obtain ⟨k1, hk1⟩ := sp_add x3_12 (1 : Int32))
        exact ih12 v3 (x3_12 + 1) hI_v3 (by omega) (by omega)
  unfold g_X5_make
  refine ok_let (fun v4 ev4 => ?_)
  have hI_v4 : PW rgX v4 := by rw [ev4]; exact hI_v.up (by have h9 := i_bd a1; exact ⟨h9.1, Int.le_of_lt_add_one h9.2⟩)
  have := i_eq (show v4 2 i0 1 = a1 by rw [ev4]; exact up3_s)
  have := i_eq (show v4 2 i0 2 = v 2 i0 2 by rw [ev4]; exact up3_j (by decide))
  refine ok_let (fun v5 ev5 => ?_)
  have hI_v5 : PW rgX v5 := by
    rw [ev5]
    refine hI_v4.up ?_
    show (0 : Int) ≤ Int32.toInt a2 ∧ Int32.toInt a2 ≤ (40 : Int)
    omega
  have := i_eq (show v5 2 i0 1 = v4 2 i0 1 by rw [ev5]; exact up3_j (by decide))
  have := i_eq (show v5 2 i0 2 = a2 by rw [ev5]; exact up3_s)
  have : (0 : Int32).toInt = 0 := (by decide)
  exact loop12 2000 v5 0 hI_v5 (by omega) (by omega)
set_option maxHeartbeats 4000000 in
theorem k_X5_reaches (v : Mm) (hI_v : PW rgX v) (i0 : Nat) (a1 : Int32) (a2 : Int32) : ok (g_X5_reaches v i0 a1 a2) (fun z => (0 : Int) ≤ Int32.toInt z ∧ Int32.toInt z ≤ (1 : Int) ∧ (Int32.toInt z = 0 ∨ (0 ≤ Int32.toInt a1 ∧ 0 ≤ Int32.toInt a2 ∧ Int32.toInt a1 + Int32.toInt a2 ≤ 40))) := by
  unfold g_X5_reaches
  refine ok_ite _ (fun c1 => ?_) (fun c1 => ?_)
  · skip
    have ic1 := i_lt c1
    have : (0 : Int32).toInt = 0 := (by decide)
    refine ok_some ?_
    show (0 : Int) ≤ Int32.toInt (0 : Int32) ∧ Int32.toInt (0 : Int32) ≤ (1 : Int) ∧ (Int32.toInt (0 : Int32) = 0 ∨ (0 ≤ Int32.toInt a1 ∧ 0 ≤ Int32.toInt a2 ∧ Int32.toInt a1 + Int32.toInt a2 ≤ 40))
    have : (0 : Int32).toInt = 0 := (by decide)
    omega
  · skip
    have ic1 := i_nlt c1
    have : (0 : Int32).toInt = 0 := (by decide)
    refine ok_ite _ (fun c2 => ?_) (fun c2 => ?_)
    · skip
      have ic2 := i_lt c2
      have : (0 : Int32).toInt = 0 := (by decide)
      refine ok_some ?_
      show (0 : Int) ≤ Int32.toInt (0 : Int32) ∧ Int32.toInt (0 : Int32) ≤ (1 : Int) ∧ (Int32.toInt (0 : Int32) = 0 ∨ (0 ≤ Int32.toInt a1 ∧ 0 ≤ Int32.toInt a2 ∧ Int32.toInt a1 + Int32.toInt a2 ≤ 40))
      have : (0 : Int32).toInt = 0 := (by decide)
      omega
    · skip
      have ic2 := i_nlt c2
      have : (0 : Int32).toInt = 0 := (by decide)
      refine ok_ite _ (fun c3 => ?_) (fun c3 => ?_)
      · skip
        have ic3 := i_lt c3
        have : (0 : Int) ≤ (v 2 i0 2).toInt ∧ (v 2 i0 2).toInt ≤ (40 : Int) := hI_v 2 i0 2
        have := i_bd (v 2 i0 2)
        have := i_bd a2
        (first | have := sp_subx (v 2 i0 2) a2 (by omega) | obtain ⟨k1, hk1⟩ := sp_sub (v 2 i0 2) a2)
        refine ok_some ?_
        show (0 : Int) ≤ Int32.toInt (0 : Int32) ∧ Int32.toInt (0 : Int32) ≤ (1 : Int) ∧ (Int32.toInt (0 : Int32) = 0 ∨ (0 ≤ Int32.toInt a1 ∧ 0 ≤ Int32.toInt a2 ∧ Int32.toInt a1 + Int32.toInt a2 ≤ 40))
        have : (0 : Int32).toInt = 0 := (by decide)
        omega
      · skip
        have ic3 := i_nlt c3
        have : (0 : Int) ≤ (v 2 i0 2).toInt ∧ (v 2 i0 2).toInt ≤ (40 : Int) := hI_v 2 i0 2
        have := i_bd (v 2 i0 2)
        have := i_bd a2
        (first | have := sp_subx (v 2 i0 2) a2 (by omega) | obtain ⟨k2, hk2⟩ := sp_sub (v 2 i0 2) a2)
        refine ok_some ?_
        show (0 : Int) ≤ Int32.toInt (1 : Int32) ∧ Int32.toInt (1 : Int32) ≤ (1 : Int) ∧ (Int32.toInt (1 : Int32) = 0 ∨ (0 ≤ Int32.toInt a1 ∧ 0 ≤ Int32.toInt a2 ∧ Int32.toInt a1 + Int32.toInt a2 ≤ 40))
        have : (1 : Int32).toInt = 1 := (by decide)
        omega
set_option maxHeartbeats 4000000 in
theorem k_X5_findingOf (v : Mm) (hI_v : PW rgX v) (i0 : Nat) (a1 : Int32) (a2 : Int32) : ok (g_X5_findingOf v i0 a1 a2) (fun z => (0 : Int) ≤ Int32.toInt z ∧ Int32.toInt z ≤ (2 : Int) ∧ (¬ (Int32.toInt z = 0) ∨ (0 ≤ Int32.toInt a1 ∧ 0 ≤ Int32.toInt a2 ∧ Int32.toInt a1 + Int32.toInt a2 ≤ 40))) := by
  unfold g_X5_findingOf
  refine ok_ite _ (fun c1 => ?_) (fun c1 => ?_)
  · skip
    have ic1 := i_eq c1
    have : (-1 : Int32).toInt = -1 := (by decide)
    refine ok_some ?_
    show (0 : Int) ≤ Int32.toInt (1 : Int32) ∧ Int32.toInt (1 : Int32) ≤ (2 : Int) ∧ (¬ (Int32.toInt (1 : Int32) = 0) ∨ (0 ≤ Int32.toInt a1 ∧ 0 ≤ Int32.toInt a2 ∧ Int32.toInt a1 + Int32.toInt a2 ≤ 40))
    have : (1 : Int32).toInt = 1 := (by decide)
    omega
  · skip
    have ic1 := i_ne c1
    have : (-1 : Int32).toInt = -1 := (by decide)
    refine ok_bind (k_X5_reaches v hI_v i0 a1 a2 ) (fun r3 hr3 => ?_)
    replace hr3 : (0 : Int) ≤ Int32.toInt r3 ∧ Int32.toInt r3 ≤ (1 : Int) ∧ (Int32.toInt r3 = 0 ∨ (0 ≤ Int32.toInt a1 ∧ 0 ≤ Int32.toInt a2 ∧ Int32.toInt a1 + Int32.toInt a2 ≤ 40)) := hr3
    obtain ⟨hr3_lo, hr3_hi, hr3_p0⟩ := hr3
    refine ok_ite _ (fun c5 => ?_) (fun c5 => ?_)
    · skip
      have ic5 := i_eq c5
      try clear hr3_p0
      have : (0 : Int32).toInt = 0 := (by decide)
      refine ok_some ?_
      show (0 : Int) ≤ Int32.toInt (2 : Int32) ∧ Int32.toInt (2 : Int32) ≤ (2 : Int) ∧ (¬ (Int32.toInt (2 : Int32) = 0) ∨ (0 ≤ Int32.toInt a1 ∧ 0 ≤ Int32.toInt a2 ∧ Int32.toInt a1 + Int32.toInt a2 ≤ 40))
      have : (2 : Int32).toInt = 2 := (by decide)
      omega
    · skip
      have ic5 : Int32.toInt r3 = 1 := one_of hr3_lo hr3_hi c5
      try replace hr3_p0 : (0 ≤ Int32.toInt a1 ∧ 0 ≤ Int32.toInt a2 ∧ Int32.toInt a1 + Int32.toInt a2 ≤ 40) := orr hr3_p0 ic5
      have : (0 : Int32).toInt = 0 := (by decide)
      refine ok_some ?_
      show (0 : Int) ≤ Int32.toInt (0 : Int32) ∧ Int32.toInt (0 : Int32) ≤ (2 : Int) ∧ (¬ (Int32.toInt (0 : Int32) = 0) ∨ (0 ≤ Int32.toInt a1 ∧ 0 ≤ Int32.toInt a2 ∧ Int32.toInt a1 + Int32.toInt a2 ≤ 40))
      have : (0 : Int32).toInt = 0 := (by decide)
      omega
set_option maxHeartbeats 4000000 in
theorem k_X5_put (v : Mm) (hI_v : PW rgX v) (i0 : Nat) (a1 : Int32) (a2 : Int32) (h_a1 : (0 : Int) ≤ a1.toInt ∧ a1.toInt ≤ (39 : Int)) : ok (g_X5_put v i0 a1 a2) (fun z => PW rgX z.2) := by
  unfold g_X5_put
  refine ok_ite _ (fun c1 => ?_) (fun c1 => ?_)
  · skip
    have ic1 := i_eq c1
    have : (0 : Int32).toInt = 0 := (by decide)
    refine ok_grd _ ?_ ?_
    · skip
      exact gr (by omega) (by omega)
    refine ok_let (fun v3 ev3 => ?_)
    have hI_v3 : PW rgX v3 := by rw [ev3]; exact hI_v.up (by have h9 := i_bd (a2.toInt8.toInt32); exact ⟨h9.1, Int.le_of_lt_add_one h9.2⟩)
    have := i_eq (show v3 2 i0 1 = v 2 i0 1 by rw [ev3]; exact up3_t (by decide))
    refine ok_grd _ ?_ ?_
    · skip
      exact gr (by omega) (by omega)
    refine ok_some ?_
    show PW rgX v3
    exact hI_v3
  · skip
    have ic1 := i_ne c1
    have : (0 : Int32).toInt = 0 := (by decide)
    refine ok_ite _ (fun c5 => ?_) (fun c5 => ?_)
    · skip
      have ic5 := i_eq c5
      have : (1 : Int32).toInt = 1 := (by decide)
      refine ok_grd _ ?_ ?_
      · skip
        exact gr (by omega) (by omega)
      refine ok_let (fun v7 ev7 => ?_)
      have hI_v7 : PW rgX v7 := by rw [ev7]; exact hI_v.up (by have h9 := i_bd (a2.toInt16.toInt32); exact ⟨h9.1, Int.le_of_lt_add_one h9.2⟩)
      have := i_eq (show v7 2 i0 1 = v 2 i0 1 by rw [ev7]; exact up3_t (by decide))
      refine ok_grd _ ?_ ?_
      · skip
        exact gr (by omega) (by omega)
      refine ok_some ?_
      show PW rgX v7
      exact hI_v7
    · skip
      have ic5 := i_ne c5
      have : (1 : Int32).toInt = 1 := (by decide)
      refine ok_grd _ ?_ ?_
      · skip
        exact gr (by omega) (by omega)
      refine ok_let (fun v10 ev10 => ?_)
      have hI_v10 : PW rgX v10 := by rw [ev10]; exact hI_v.up (by have h9 := i_bd a2; exact ⟨h9.1, Int.le_of_lt_add_one h9.2⟩)
      have := i_eq (show v10 2 i0 1 = v 2 i0 1 by rw [ev10]; exact up3_t (by decide))
      refine ok_grd _ ?_ ?_
      · skip
        exact gr (by omega) (by omega)
      refine ok_some ?_
      show PW rgX v10
      exact hI_v10
