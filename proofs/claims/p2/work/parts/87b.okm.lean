set_option maxHeartbeats 4000000 in
theorem k_X8_byteAt (v : Mm) (hI_v : IM v) (a1 : Int32) (h_a1 : (0 : Int) ≤ a1.toInt ∧ a1.toInt ≤ (100 : Int)) : ok (g_X8_byteAt v a1) (fun z => (-1 : Int) ≤ Int32.toInt z ∧ Int32.toInt z ≤ (255 : Int) ∧ (Int32.toInt z = -1 ∨ Int32.toInt a1 < Int32.toInt (v 30 0 6))) := by
  unfold g_X8_byteAt
  refine ok_ite _ (fun c1 => ?_) (fun c1 => ?_)
  · skip
    have ic1 := i_le c1
    have : (0 : Int) ≤ (v 30 0 6).toInt ∧ (v 30 0 6).toInt ≤ (100 : Int) := hI_v.1 30 0 6
    refine ok_some ?_
    show (-1 : Int) ≤ Int32.toInt (-1 : Int32) ∧ Int32.toInt (-1 : Int32) ≤ (255 : Int) ∧ (Int32.toInt (-1 : Int32) = -1 ∨ Int32.toInt a1 < Int32.toInt (v 30 0 6))
    have : (-1 : Int32).toInt = -1 := (by decide)
    omega
  · skip
    have ic1 := i_nle c1
    have : (0 : Int) ≤ (v 30 0 6).toInt ∧ (v 30 0 6).toInt ≤ (100 : Int) := hI_v.1 30 0 6
    refine ok_grd _ ?_ ?_
    · skip
      exact gr (by omega) (by omega)
    refine ok_some ?_
    show (-1 : Int) ≤ Int32.toInt (v 35 0 (Int32.toNatClampNeg a1)) ∧ Int32.toInt (v 35 0 (Int32.toNatClampNeg a1)) ≤ (255 : Int) ∧ (Int32.toInt (v 35 0 (Int32.toNatClampNeg a1)) = -1 ∨ Int32.toInt a1 < Int32.toInt (v 30 0 6))
    have : (0 : Int) ≤ (v 35 0 (Int32.toNatClampNeg a1)).toInt ∧ (v 35 0 (Int32.toNatClampNeg a1)).toInt ≤ (255 : Int) := hI_v.1 35 0 (Int32.toNatClampNeg a1)
    omega
set_option maxHeartbeats 4000000 in
theorem k_X8_advances (v : Mm) (hI_v : IM v)  : ok (g_X8_advances v ) (fun z => IM z ∧ (Int32.toInt (z 37 0 3) = Int32.toInt (v 37 0 3)) ∧ (Int32.toInt (z 37 0 4) = Int32.toInt (v 37 0 4)) ∧ (Int32.toInt (z 30 0 8) = Int32.toInt (v 30 0 8))) := by
  have loop38 : ∀ (n38 : Nat) (w38 : Mm) (x1_38 : Int32), (IM w38) → (Int32.toInt (w38 37 0 3) = Int32.toInt (v 37 0 3)) → (Int32.toInt (w38 37 0 4) = Int32.toInt (v 37 0 4)) → (Int32.toInt (w38 30 0 8) = Int32.toInt (v 30 0 8)) → (100 - Int32.toInt (w38 30 0 9) < (n38 : Int)) → ok (g_X8_advances_L38   n38 w38 x1_38) (fun z => IM z ∧ (Int32.toInt (z 37 0 3) = Int32.toInt (v 37 0 3)) ∧ (Int32.toInt (z 37 0 4) = Int32.toInt (v 37 0 4)) ∧ (Int32.toInt (z 30 0 8) = Int32.toInt (v 30 0 8))) := by
    intro n38
    induction n38 with
    | zero =>
      intro w38 x1_38 hI_w38 hv0_38 hv1_38 hv2_38 hm38
      exfalso
      have : (0 : Int) ≤ (w38 37 0 3).toInt ∧ (w38 37 0 3).toInt ≤ (6 : Int) := hI_w38.1 37 0 3
      have : (0 : Int) ≤ (v 37 0 3).toInt ∧ (v 37 0 3).toInt ≤ (6 : Int) := hI_v.1 37 0 3
      have : (0 : Int) ≤ (w38 37 0 4).toInt ∧ (w38 37 0 4).toInt ≤ (4 : Int) := hI_w38.1 37 0 4
      have : (0 : Int) ≤ (v 37 0 4).toInt ∧ (v 37 0 4).toInt ≤ (4 : Int) := hI_v.1 37 0 4
      have : (-1 : Int) ≤ (w38 30 0 8).toInt ∧ (w38 30 0 8).toInt ≤ (100 : Int) := hI_w38.1 30 0 8
      have : (-1 : Int) ≤ (v 30 0 8).toInt ∧ (v 30 0 8).toInt ≤ (100 : Int) := hI_v.1 30 0 8
      have : (0 : Int) ≤ (w38 30 0 9).toInt ∧ (w38 30 0 9).toInt ≤ (100 : Int) := hI_w38.1 30 0 9
      omega
    | succ n38 ih38 =>
      intro w38 x1_38 hI_w38 hv0_38 hv1_38 hv2_38 hm38
      show ok (b_X8_advances_L38  (g_X8_advances_L38   n38)  w38 x1_38) _
      unfold b_X8_advances_L38
      have : (0 : Int) ≤ (w38 37 0 3).toInt ∧ (w38 37 0 3).toInt ≤ (6 : Int) := hI_w38.1 37 0 3
      have : (0 : Int) ≤ (v 37 0 3).toInt ∧ (v 37 0 3).toInt ≤ (6 : Int) := hI_v.1 37 0 3
      have : (0 : Int) ≤ (w38 37 0 4).toInt ∧ (w38 37 0 4).toInt ≤ (4 : Int) := hI_w38.1 37 0 4
      have : (0 : Int) ≤ (v 37 0 4).toInt ∧ (v 37 0 4).toInt ≤ (4 : Int) := hI_v.1 37 0 4
      have : (-1 : Int) ≤ (w38 30 0 8).toInt ∧ (w38 30 0 8).toInt ≤ (100 : Int) := hI_w38.1 30 0 8
      have : (-1 : Int) ≤ (v 30 0 8).toInt ∧ (v 30 0 8).toInt ≤ (100 : Int) := hI_v.1 30 0 8
      have : (0 : Int) ≤ (w38 30 0 9).toInt ∧ (w38 30 0 9).toInt ≤ (100 : Int) := hI_w38.1 30 0 9
      refine ok_bind (k_X8_byteAt w38 hI_w38 (w38 30 0 9) (by have : (0 : Int) ≤ (w38 30 0 9).toInt ∧ (w38 30 0 9).toInt ≤ (100 : Int) := hI_w38.1 30 0 9; omega)) (fun r2 hr2 => ?_)
      replace hr2 : (-1 : Int) ≤ Int32.toInt r2 ∧ Int32.toInt r2 ≤ (255 : Int) ∧ (Int32.toInt r2 = -1 ∨ Int32.toInt (w38 30 0 9) < Int32.toInt (w38 30 0 6)) := hr2
      obtain ⟨hr2_lo, hr2_hi, hr2_p0⟩ := hr2
      have : (0 : Int) ≤ (w38 30 0 9).toInt ∧ (w38 30 0 9).toInt ≤ (100 : Int) := hI_w38.1 30 0 9
      have : (0 : Int) ≤ (w38 30 0 6).toInt ∧ (w38 30 0 6).toInt ≤ (100 : Int) := hI_w38.1 30 0 6
      have : (0 : Int) ≤ (w38 30 0 9).toInt ∧ (w38 30 0 9).toInt ≤ (100 : Int) := hI_w38.1 30 0 9
      refine ok_bind (k_X8_in w38 hI_w38 r2 48 57 ) (fun r5 hr5 => ?_)
      replace hr5 : (0 : Int) ≤ Int32.toInt r5 ∧ Int32.toInt r5 ≤ (1 : Int) ∧ (Int32.toInt r5 = 0 ∨ (Int32.toInt 48 ≤ Int32.toInt r2 ∧ Int32.toInt r2 ≤ Int32.toInt 57)) := hr5
      obtain ⟨hr5_lo, hr5_hi, hr5_p0⟩ := hr5
      have : (48 : Int32).toInt = 48 := (by decide)
      have : (57 : Int32).toInt = 57 := (by decide)
      refine ok_ite _ (fun c7 => ?_) (fun c7 => ?_)
      · skip
        have ic7 := i_eq c7
        try clear hr5_p0
        have : (0 : Int32).toInt = 0 := (by decide)
        refine ok_ite _ (fun c8 => ?_) (fun c8 => ?_)
        · skip
          have ic8 := i_le c8
          have : (0 : Int) ≤ (w38 30 0 9).toInt ∧ (w38 30 0 9).toInt ≤ (100 : Int) := hI_w38.1 30 0 9
          have : (0 : Int) ≤ (w38 30 0 10).toInt ∧ (w38 30 0 10).toInt ≤ (100 : Int) := hI_w38.1 30 0 10
          have := i_bd (w38 30 0 9)
          have := i_bd (w38 30 0 10)
          (first | have := sp_subx (w38 30 0 9) (w38 30 0 10) (by omega) | obtain ⟨k1, hk1⟩ := sp_sub (w38 30 0 9) (w38 30 0 10))
          have : (3 : Int32).toInt = 3 := (by decide)
          refine ok_let (fun v9 ev9 => ?_)
          have hI_v9 : IM v9 := by
            rw [ev9]
            refine hI_w38.upo (by decide) ?_
            show (0 : Int) ≤ Int32.toInt (5 : Int32) ∧ Int32.toInt (5 : Int32) ≤ (5 : Int)
            have : (5 : Int32).toInt = 5 := (by decide)
            omega
          have := i_eq (show v9 30 0 8 = w38 30 0 8 by rw [ev9]; exact up3_j (by decide))
          have := i_eq (show v9 30 0 9 = w38 30 0 9 by rw [ev9]; exact up3_j (by decide))
          have := i_eq (show v9 30 0 10 = w38 30 0 10 by rw [ev9]; exact up3_j (by decide))
          have := i_eq (show v9 30 0 11 = 5 by rw [ev9]; exact up3_s)
          have : (5 : Int32).toInt = 5 := (by decide)
          have := i_eq (show v9 30 0 12 = w38 30 0 12 by rw [ev9]; exact up3_j (by decide))
          have := i_eq (show v9 37 0 3 = w38 37 0 3 by rw [ev9]; exact up3_t (by decide))
          have := i_eq (show v9 37 0 4 = w38 37 0 4 by rw [ev9]; exact up3_t (by decide))
          refine ok_some ?_
          show IM v9 ∧ (Int32.toInt (v9 37 0 3) = Int32.toInt (v 37 0 3)) ∧ (Int32.toInt (v9 37 0 4) = Int32.toInt (v 37 0 4)) ∧ (Int32.toInt (v9 30 0 8) = Int32.toInt (v 30 0 8))
          refine ⟨hI_v9, ?_⟩
          omega
        · skip
          have ic8 := i_nle c8
          have : (0 : Int) ≤ (w38 30 0 9).toInt ∧ (w38 30 0 9).toInt ≤ (100 : Int) := hI_w38.1 30 0 9
          have : (0 : Int) ≤ (w38 30 0 10).toInt ∧ (w38 30 0 10).toInt ≤ (100 : Int) := hI_w38.1 30 0 10
          have := i_bd (w38 30 0 9)
          have := i_bd (w38 30 0 10)
          (first | have := sp_subx (w38 30 0 9) (w38 30 0 10) (by omega) | obtain ⟨k2, hk2⟩ := sp_sub (w38 30 0 9) (w38 30 0 10))
          have : (3 : Int32).toInt = 3 := (by decide)
          refine ok_let (fun v10 ev10 => ?_)
          have hI_v10 : IM v10 := by
            rw [ev10]
            refine hI_w38.upo (by decide) ?_
            show (0 : Int) ≤ Int32.toInt (2 : Int32) ∧ Int32.toInt (2 : Int32) ≤ (5 : Int)
            have : (2 : Int32).toInt = 2 := (by decide)
            omega
          have := i_eq (show v10 30 0 8 = w38 30 0 8 by rw [ev10]; exact up3_j (by decide))
          have := i_eq (show v10 30 0 9 = w38 30 0 9 by rw [ev10]; exact up3_j (by decide))
          have := i_eq (show v10 30 0 10 = w38 30 0 10 by rw [ev10]; exact up3_j (by decide))
          have := i_eq (show v10 30 0 11 = 2 by rw [ev10]; exact up3_s)
          have : (2 : Int32).toInt = 2 := (by decide)
          have := i_eq (show v10 30 0 12 = w38 30 0 12 by rw [ev10]; exact up3_j (by decide))
          have := i_eq (show v10 37 0 3 = w38 37 0 3 by rw [ev10]; exact up3_t (by decide))
          have := i_eq (show v10 37 0 4 = w38 37 0 4 by rw [ev10]; exact up3_t (by decide))
          refine ok_some ?_
          show IM v10 ∧ (Int32.toInt (v10 37 0 3) = Int32.toInt (v 37 0 3)) ∧ (Int32.toInt (v10 37 0 4) = Int32.toInt (v 37 0 4)) ∧ (Int32.toInt (v10 30 0 8) = Int32.toInt (v 30 0 8))
          refine ⟨hI_v10, ?_⟩
          omega
      · skip
        have ic7 : Int32.toInt r5 = 1 := one_of hr5_lo hr5_hi c7
        try replace hr5_p0 : (Int32.toInt 48 ≤ Int32.toInt r2 ∧ Int32.toInt r2 ≤ Int32.toInt 57) := orr hr5_p0 ic7
        have : (0 : Int32).toInt = 0 := (by decide)
        refine ok_ite _ (fun c11 => ?_) (fun c11 => ?_)
        · skip
          have ic11 := i_le c11
          have : (0 : Int) ≤ (w38 30 0 9).toInt ∧ (w38 30 0 9).toInt ≤ (100 : Int) := hI_w38.1 30 0 9
          have : (0 : Int) ≤ (w38 30 0 10).toInt ∧ (w38 30 0 10).toInt ≤ (100 : Int) := hI_w38.1 30 0 10
          have := i_bd (w38 30 0 9)
          have := i_bd (w38 30 0 10)
          (first | have := sp_subx (w38 30 0 9) (w38 30 0 10) (by omega) | obtain ⟨k3, hk3⟩ := sp_sub (w38 30 0 9) (w38 30 0 10))
          have : (2 : Int32).toInt = 2 := (by decide)
          refine ok_let (fun v12 ev12 => ?_)
          have hI_v12 : IM v12 := by rw [ev12]; exact hI_w38.upo (by decide) (by have h9 := i_bd (w38 30 0 12); exact ⟨h9.1, Int.le_of_lt_add_one h9.2⟩)
          have := i_eq (show v12 30 0 8 = w38 30 0 8 by rw [ev12]; exact up3_j (by decide))
          have := i_eq (show v12 30 0 9 = w38 30 0 9 by rw [ev12]; exact up3_j (by decide))
          have := i_eq (show v12 30 0 10 = w38 30 0 10 by rw [ev12]; exact up3_j (by decide))
          have := i_eq (show v12 30 0 11 = w38 30 0 11 by rw [ev12]; exact up3_j (by decide))
          have := i_eq (show v12 30 0 12 = (w38 30 0 12) by rw [ev12]; exact up3_s)
          have := i_eq (show v12 37 0 3 = w38 37 0 3 by rw [ev12]; exact up3_t (by decide))
          have := i_eq (show v12 37 0 4 = w38 37 0 4 by rw [ev12]; exact up3_t (by decide))
          refine ok_let (fun v13 ev13 => ?_)
          have hI_v13 : IM v13 := by
            rw [ev13]
            refine hI_v12.upo (by decide) ?_
            show (0 : Int) ≤ Int32.toInt ((v12 30 0 9) + 1) ∧ Int32.toInt ((v12 30 0 9) + 1) ≤ (100 : Int)
            have : (0 : Int) ≤ (v12 30 0 9).toInt ∧ (v12 30 0 9).toInt ≤ (100 : Int) := hI_v12.1 30 0 9
            have : (1 : Int32).toInt = 1 := (by decide)
            have := i_bd (v12 30 0 9)
            (first | have := sp_addx (v12 30 0 9) (1 : Int32) (by omega) | obtain ⟨k4, hk4⟩ := sp_add (v12 30 0 9) (1 : Int32))
            omega
          have := i_eq (show v13 30 0 8 = v12 30 0 8 by rw [ev13]; exact up3_j (by decide))
          have := i_eq (show v13 30 0 9 = ((v12 30 0 9) + 1) by rw [ev13]; exact up3_s)
          have : (0 : Int) ≤ (v12 30 0 9).toInt ∧ (v12 30 0 9).toInt ≤ (100 : Int) := hI_v12.1 30 0 9
          have : (1 : Int32).toInt = 1 := (by decide)
          have := i_bd (v12 30 0 9)
          (first | have := sp_addx (v12 30 0 9) (1 : Int32) (by omega) | obtain ⟨k5, hk5⟩ := sp_add (v12 30 0 9) (1 : Int32))
          have := i_eq (show v13 30 0 10 = v12 30 0 10 by rw [ev13]; exact up3_j (by decide))
          have := i_eq (show v13 30 0 11 = v12 30 0 11 by rw [ev13]; exact up3_j (by decide))
          have := i_eq (show v13 30 0 12 = v12 30 0 12 by rw [ev13]; exact up3_j (by decide))
          have := i_eq (show v13 37 0 3 = v12 37 0 3 by rw [ev13]; exact up3_t (by decide))
          have := i_eq (show v13 37 0 4 = v12 37 0 4 by rw [ev13]; exact up3_t (by decide))
          exact ih38 v13 x1_38 hI_v13 (by omega) (by omega) (by omega) (by omega)
        · skip
          have ic11 := i_nle c11
          have : (0 : Int) ≤ (w38 30 0 9).toInt ∧ (w38 30 0 9).toInt ≤ (100 : Int) := hI_w38.1 30 0 9
          have : (0 : Int) ≤ (w38 30 0 10).toInt ∧ (w38 30 0 10).toInt ≤ (100 : Int) := hI_w38.1 30 0 10
          have := i_bd (w38 30 0 9)
          have := i_bd (w38 30 0 10)
          (first | have := sp_subx (w38 30 0 9) (w38 30 0 10) (by omega) | obtain ⟨k6, hk6⟩ := sp_sub (w38 30 0 9) (w38 30 0 10))
          have : (2 : Int32).toInt = 2 := (by decide)
          refine ok_bind (k_X8_byteAt w38 hI_w38 (w38 30 0 9) (by have : (0 : Int) ≤ (w38 30 0 9).toInt ∧ (w38 30 0 9).toInt ≤ (100 : Int) := hI_w38.1 30 0 9; omega)) (fun r15 hr15 => ?_)
          replace hr15 : (-1 : Int) ≤ Int32.toInt r15 ∧ Int32.toInt r15 ≤ (255 : Int) ∧ (Int32.toInt r15 = -1 ∨ Int32.toInt (w38 30 0 9) < Int32.toInt (w38 30 0 6)) := hr15
          obtain ⟨hr15_lo, hr15_hi, hr15_p0⟩ := hr15
          have : (0 : Int) ≤ (w38 30 0 9).toInt ∧ (w38 30 0 9).toInt ≤ (100 : Int) := hI_w38.1 30 0 9
          have : (0 : Int) ≤ (w38 30 0 6).toInt ∧ (w38 30 0 6).toInt ≤ (100 : Int) := hI_w38.1 30 0 6
          have : (0 : Int) ≤ (w38 30 0 9).toInt ∧ (w38 30 0 9).toInt ≤ (100 : Int) := hI_w38.1 30 0 9
          refine ok_let (fun v17 ev17 => ?_)
          have hI_v17 : IM v17 := by rw [ev17]; exact hI_w38.upo (by decide) (by have h9 := i_bd ((((10 : Int32) * (w38 30 0 12)) + r15) - 48); exact ⟨h9.1, Int.le_of_lt_add_one h9.2⟩)
          have := i_eq (show v17 30 0 8 = w38 30 0 8 by rw [ev17]; exact up3_j (by decide))
          have := i_eq (show v17 30 0 9 = w38 30 0 9 by rw [ev17]; exact up3_j (by decide))
          have := i_eq (show v17 30 0 10 = w38 30 0 10 by rw [ev17]; exact up3_j (by decide))
          have := i_eq (show v17 30 0 11 = w38 30 0 11 by rw [ev17]; exact up3_j (by decide))
          have := i_eq (show v17 30 0 12 = ((((10 : Int32) * (w38 30 0 12)) + r15) - 48) by rw [ev17]; exact up3_s)
          have : (10 : Int32).toInt = 10 := (by decide)
          (first | have := sp_cmulx (10 : Int32) (w38 30 0 12) 10 (by decide) (by omega) | obtain ⟨k7, hk7⟩ := sp_cmul (10 : Int32) (w38 30 0 12) 10 (by decide))
          have := i_bd r15
          (first | have := sp_addx ((10 : Int32) * (w38 30 0 12)) r15 (by omega) | obtain ⟨k8, hk8⟩ := sp_add ((10 : Int32) * (w38 30 0 12)) r15)
          have : (48 : Int32).toInt = 48 := (by decide)
          (first | have := sp_subx (((10 : Int32) * (w38 30 0 12)) + r15) (48 : Int32) (by omega) | obtain ⟨k9, hk9⟩ := sp_sub (((10 : Int32) * (w38 30 0 12)) + r15) (48 : Int32))
          have := i_eq (show v17 37 0 3 = w38 37 0 3 by rw [ev17]; exact up3_t (by decide))
          have := i_eq (show v17 37 0 4 = w38 37 0 4 by rw [ev17]; exact up3_t (by decide))
          refine ok_let (fun v18 ev18 => ?_)
          have hI_v18 : IM v18 := by
            rw [ev18]
            refine hI_v17.upo (by decide) ?_
            show (0 : Int) ≤ Int32.toInt ((v17 30 0 9) + 1) ∧ Int32.toInt ((v17 30 0 9) + 1) ≤ (100 : Int)
            have : (0 : Int) ≤ (v17 30 0 9).toInt ∧ (v17 30 0 9).toInt ≤ (100 : Int) := hI_v17.1 30 0 9
            have : (1 : Int32).toInt = 1 := (by decide)
            have := i_bd (v17 30 0 9)
            (first | have := sp_addx (v17 30 0 9) (1 : Int32) (by omega) | obtain ⟨k10, hk10⟩ := sp_add (v17 30 0 9) (1 : Int32))
            omega
          have := i_eq (show v18 30 0 8 = v17 30 0 8 by rw [ev18]; exact up3_j (by decide))
          have := i_eq (show v18 30 0 9 = ((v17 30 0 9) + 1) by rw [ev18]; exact up3_s)
          have : (0 : Int) ≤ (v17 30 0 9).toInt ∧ (v17 30 0 9).toInt ≤ (100 : Int) := hI_v17.1 30 0 9
          have : (1 : Int32).toInt = 1 := (by decide)
          have := i_bd (v17 30 0 9)
          (first | have := sp_addx (v17 30 0 9) (1 : Int32) (by omega) | obtain ⟨k11, hk11⟩ := sp_add (v17 30 0 9) (1 : Int32))
          have := i_eq (show v18 30 0 10 = v17 30 0 10 by rw [ev18]; exact up3_j (by decide))
          have := i_eq (show v18 30 0 11 = v17 30 0 11 by rw [ev18]; exact up3_j (by decide))
          have := i_eq (show v18 30 0 12 = v17 30 0 12 by rw [ev18]; exact up3_j (by decide))
          have := i_eq (show v18 37 0 3 = v17 37 0 3 by rw [ev18]; exact up3_t (by decide))
          have := i_eq (show v18 37 0 4 = v17 37 0 4 by rw [ev18]; exact up3_t (by decide))
          exact ih38 v18 x1_38 hI_v18 (by omega) (by omega) (by omega) (by omega)
  unfold g_X8_advances
  refine ok_let (fun v19 ev19 => ?_)
  have hI_v19 : IM v19 := by
    rw [ev19]
    refine hI_v.upo (by decide) ?_
    show (0 : Int) ≤ Int32.toInt (v 30 0 9) ∧ Int32.toInt (v 30 0 9) ≤ (100 : Int)
    have : (0 : Int) ≤ (v 30 0 9).toInt ∧ (v 30 0 9).toInt ≤ (100 : Int) := hI_v.1 30 0 9
    omega
  have := i_eq (show v19 30 0 8 = v 30 0 8 by rw [ev19]; exact up3_j (by decide))
  have := i_eq (show v19 30 0 9 = v 30 0 9 by rw [ev19]; exact up3_j (by decide))
  have := i_eq (show v19 30 0 10 = (v 30 0 9) by rw [ev19]; exact up3_s)
  have : (0 : Int) ≤ (v 30 0 9).toInt ∧ (v 30 0 9).toInt ≤ (100 : Int) := hI_v.1 30 0 9
  have := i_eq (show v19 30 0 11 = v 30 0 11 by rw [ev19]; exact up3_j (by decide))
  have := i_eq (show v19 30 0 12 = v 30 0 12 by rw [ev19]; exact up3_j (by decide))
  have := i_eq (show v19 37 0 3 = v 37 0 3 by rw [ev19]; exact up3_t (by decide))
  have := i_eq (show v19 37 0 4 = v 37 0 4 by rw [ev19]; exact up3_t (by decide))
  refine ok_bind (k_X8_byteAt v19 hI_v19 (v19 30 0 9) (by have : (0 : Int) ≤ (v19 30 0 9).toInt ∧ (v19 30 0 9).toInt ≤ (100 : Int) := hI_v19.1 30 0 9; omega)) (fun r21 hr21 => ?_)
  replace hr21 : (-1 : Int) ≤ Int32.toInt r21 ∧ Int32.toInt r21 ≤ (255 : Int) ∧ (Int32.toInt r21 = -1 ∨ Int32.toInt (v19 30 0 9) < Int32.toInt (v19 30 0 6)) := hr21
  obtain ⟨hr21_lo, hr21_hi, hr21_p0⟩ := hr21
  have : (0 : Int) ≤ (v19 30 0 9).toInt ∧ (v19 30 0 9).toInt ≤ (100 : Int) := hI_v19.1 30 0 9
  have : (0 : Int) ≤ (v19 30 0 6).toInt ∧ (v19 30 0 6).toInt ≤ (100 : Int) := hI_v19.1 30 0 6
  have : (0 : Int) ≤ (v19 30 0 9).toInt ∧ (v19 30 0 9).toInt ≤ (100 : Int) := hI_v19.1 30 0 9
  refine ok_let (fun v23 ev23 => ?_)
  have hI_v23 : IM v23 := by rw [ev23]; exact hI_v19.upo (by decide) (by have h9 := i_bd r21; exact ⟨h9.1, Int.le_of_lt_add_one h9.2⟩)
  have := i_eq (show v23 30 0 8 = v19 30 0 8 by rw [ev23]; exact up3_j (by decide))
  have := i_eq (show v23 30 0 9 = v19 30 0 9 by rw [ev23]; exact up3_j (by decide))
  have := i_eq (show v23 30 0 10 = v19 30 0 10 by rw [ev23]; exact up3_j (by decide))
  have := i_eq (show v23 30 0 11 = v19 30 0 11 by rw [ev23]; exact up3_j (by decide))
  have := i_eq (show v23 30 0 12 = r21 by rw [ev23]; exact up3_s)
  have := i_eq (show v23 37 0 3 = v19 37 0 3 by rw [ev23]; exact up3_t (by decide))
  have := i_eq (show v23 37 0 4 = v19 37 0 4 by rw [ev23]; exact up3_t (by decide))
  refine ok_bind (k_X8_in v23 hI_v23 r21 48 57 ) (fun r25 hr25 => ?_)
  replace hr25 : (0 : Int) ≤ Int32.toInt r25 ∧ Int32.toInt r25 ≤ (1 : Int) ∧ (Int32.toInt r25 = 0 ∨ (Int32.toInt 48 ≤ Int32.toInt r21 ∧ Int32.toInt r21 ≤ Int32.toInt 57)) := hr25
  obtain ⟨hr25_lo, hr25_hi, hr25_p0⟩ := hr25
  have : (48 : Int32).toInt = 48 := (by decide)
  have : (57 : Int32).toInt = 57 := (by decide)
  refine ok_ite _ (fun c27 => ?_) (fun c27 => ?_)
  · skip
    have ic27 := i_eq c27
    try clear hr25_p0
    have : (0 : Int32).toInt = 0 := (by decide)
    refine ok_ite _ (fun c28 => ?_) (fun c28 => ?_)
    · skip
      have ic28 := i_le c28
      have : (0 : Int32).toInt = 0 := (by decide)
      refine ok_bind (k_X8_in v23 hI_v23 r21 97 122 ) (fun r30 hr30 => ?_)
      replace hr30 : (0 : Int) ≤ Int32.toInt r30 ∧ Int32.toInt r30 ≤ (1 : Int) ∧ (Int32.toInt r30 = 0 ∨ (Int32.toInt 97 ≤ Int32.toInt r21 ∧ Int32.toInt r21 ≤ Int32.toInt 122)) := hr30
      obtain ⟨hr30_lo, hr30_hi, hr30_p0⟩ := hr30
      have : (97 : Int32).toInt = 97 := (by decide)
      have : (122 : Int32).toInt = 122 := (by decide)
      refine ok_ite _ (fun c32 => ?_) (fun c32 => ?_)
      · skip
        have ic32 := i_eq c32
        try clear hr30_p0
        have : (0 : Int32).toInt = 0 := (by decide)
        refine ok_ite _ (fun c33 => ?_) (fun c33 => ?_)
        · skip
          have ic33 := i_eq c33
          have : (44 : Int32).toInt = 44 := (by decide)
          refine ok_let (fun v34 ev34 => ?_)
          have hI_v34 : IM v34 := by
            rw [ev34]
            refine hI_v23.upo (by decide) ?_
            show (0 : Int) ≤ Int32.toInt (3 : Int32) ∧ Int32.toInt (3 : Int32) ≤ (5 : Int)
            have : (3 : Int32).toInt = 3 := (by decide)
            omega
          have := i_eq (show v34 30 0 8 = v23 30 0 8 by rw [ev34]; exact up3_j (by decide))
          have := i_eq (show v34 30 0 9 = v23 30 0 9 by rw [ev34]; exact up3_j (by decide))
          have := i_eq (show v34 30 0 10 = v23 30 0 10 by rw [ev34]; exact up3_j (by decide))
          have := i_eq (show v34 30 0 11 = 3 by rw [ev34]; exact up3_s)
          have : (3 : Int32).toInt = 3 := (by decide)
          have := i_eq (show v34 30 0 12 = v23 30 0 12 by rw [ev34]; exact up3_j (by decide))
          have := i_eq (show v34 37 0 3 = v23 37 0 3 by rw [ev34]; exact up3_t (by decide))
          have := i_eq (show v34 37 0 4 = v23 37 0 4 by rw [ev34]; exact up3_t (by decide))
          refine ok_ite _ (fun c35 => ?_) (fun c35 => ?_)
          · skip
            have ic35 := i_eq c35
            have : (0 : Int) ≤ (v34 30 0 11).toInt ∧ (v34 30 0 11).toInt ≤ (5 : Int) := hI_v34.1 30 0 11
            have : (0 : Int32).toInt = 0 := (by decide)
            refine ok_let (fun v36 ev36 => ?_)
            have hI_v36 : IM v36 := by
              rw [ev36]
              refine hI_v34.upo (by decide) ?_
              show (0 : Int) ≤ Int32.toInt ((v34 30 0 9) + 0) ∧ Int32.toInt ((v34 30 0 9) + 0) ≤ (100 : Int)
              have : (0 : Int) ≤ (v34 30 0 9).toInt ∧ (v34 30 0 9).toInt ≤ (100 : Int) := hI_v34.1 30 0 9
              have : (0 : Int32).toInt = 0 := (by decide)
              have := i_bd (v34 30 0 9)
              (first | have := sp_addx (v34 30 0 9) (0 : Int32) (by omega) | obtain ⟨k12, hk12⟩ := sp_add (v34 30 0 9) (0 : Int32))
              omega
            have := i_eq (show v36 30 0 8 = v34 30 0 8 by rw [ev36]; exact up3_j (by decide))
            have := i_eq (show v36 30 0 9 = ((v34 30 0 9) + 0) by rw [ev36]; exact up3_s)
            have : (0 : Int) ≤ (v34 30 0 9).toInt ∧ (v34 30 0 9).toInt ≤ (100 : Int) := hI_v34.1 30 0 9
            have : (0 : Int32).toInt = 0 := (by decide)
            have := i_bd (v34 30 0 9)
            (first | have := sp_addx (v34 30 0 9) (0 : Int32) (by omega) | obtain ⟨k13, hk13⟩ := sp_add (v34 30 0 9) (0 : Int32))
            have := i_eq (show v36 30 0 10 = v34 30 0 10 by rw [ev36]; exact up3_j (by decide))
            have := i_eq (show v36 30 0 11 = v34 30 0 11 by rw [ev36]; exact up3_j (by decide))
            have := i_eq (show v36 30 0 12 = v34 30 0 12 by rw [ev36]; exact up3_j (by decide))
            have := i_eq (show v36 37 0 3 = v34 37 0 3 by rw [ev36]; exact up3_t (by decide))
            have := i_eq (show v36 37 0 4 = v34 37 0 4 by rw [ev36]; exact up3_t (by decide))
            refine ok_some ?_
            show IM v36 ∧ (Int32.toInt (v36 37 0 3) = Int32.toInt (v 37 0 3)) ∧ (Int32.toInt (v36 37 0 4) = Int32.toInt (v 37 0 4)) ∧ (Int32.toInt (v36 30 0 8) = Int32.toInt (v 30 0 8))
            refine ⟨hI_v36, ?_⟩
            omega
          · skip
            have ic35 := i_ne c35
            have : (0 : Int) ≤ (v34 30 0 11).toInt ∧ (v34 30 0 11).toInt ≤ (5 : Int) := hI_v34.1 30 0 11
            have : (0 : Int32).toInt = 0 := (by decide)
            refine ok_let (fun v37 ev37 => ?_)
            have hI_v37 : IM v37 := by
              rw [ev37]
              refine hI_v34.upo (by decide) ?_
              show (0 : Int) ≤ Int32.toInt ((v34 30 0 9) + 1) ∧ Int32.toInt ((v34 30 0 9) + 1) ≤ (100 : Int)
              have : (0 : Int) ≤ (v34 30 0 9).toInt ∧ (v34 30 0 9).toInt ≤ (100 : Int) := hI_v34.1 30 0 9
              have : (1 : Int32).toInt = 1 := (by decide)
              have := i_bd (v34 30 0 9)
              (first | have := sp_addx (v34 30 0 9) (1 : Int32) (by omega) | obtain ⟨k14, hk14⟩ := sp_add (v34 30 0 9) (1 : Int32))
              omega
            have := i_eq (show v37 30 0 8 = v34 30 0 8 by rw [ev37]; exact up3_j (by decide))
            have := i_eq (show v37 30 0 9 = ((v34 30 0 9) + 1) by rw [ev37]; exact up3_s)
            have : (0 : Int) ≤ (v34 30 0 9).toInt ∧ (v34 30 0 9).toInt ≤ (100 : Int) := hI_v34.1 30 0 9
            have : (1 : Int32).toInt = 1 := (by decide)
            have := i_bd (v34 30 0 9)
            (first | have := sp_addx (v34 30 0 9) (1 : Int32) (by omega) | obtain ⟨k15, hk15⟩ := sp_add (v34 30 0 9) (1 : Int32))
            have := i_eq (show v37 30 0 10 = v34 30 0 10 by rw [ev37]; exact up3_j (by decide))
            have := i_eq (show v37 30 0 11 = v34 30 0 11 by rw [ev37]; exact up3_j (by decide))
            have := i_eq (show v37 30 0 12 = v34 30 0 12 by rw [ev37]; exact up3_j (by decide))
            have := i_eq (show v37 37 0 3 = v34 37 0 3 by rw [ev37]; exact up3_t (by decide))
            have := i_eq (show v37 37 0 4 = v34 37 0 4 by rw [ev37]; exact up3_t (by decide))
            refine ok_some ?_
            show IM v37 ∧ (Int32.toInt (v37 37 0 3) = Int32.toInt (v 37 0 3)) ∧ (Int32.toInt (v37 37 0 4) = Int32.toInt (v 37 0 4)) ∧ (Int32.toInt (v37 30 0 8) = Int32.toInt (v 30 0 8))
            refine ⟨hI_v37, ?_⟩
            omega
        · skip
          have ic33 := i_ne c33
          have : (44 : Int32).toInt = 44 := (by decide)
          refine ok_ite _ (fun c38 => ?_) (fun c38 => ?_)
          · skip
            have ic38 := i_eq c38
            have : (59 : Int32).toInt = 59 := (by decide)
            refine ok_let (fun v39 ev39 => ?_)
            have hI_v39 : IM v39 := by
              rw [ev39]
              refine hI_v23.upo (by decide) ?_
              show (0 : Int) ≤ Int32.toInt (4 : Int32) ∧ Int32.toInt (4 : Int32) ≤ (5 : Int)
              have : (4 : Int32).toInt = 4 := (by decide)
              omega
            have := i_eq (show v39 30 0 8 = v23 30 0 8 by rw [ev39]; exact up3_j (by decide))
            have := i_eq (show v39 30 0 9 = v23 30 0 9 by rw [ev39]; exact up3_j (by decide))
            have := i_eq (show v39 30 0 10 = v23 30 0 10 by rw [ev39]; exact up3_j (by decide))
            have := i_eq (show v39 30 0 11 = 4 by rw [ev39]; exact up3_s)
            have : (4 : Int32).toInt = 4 := (by decide)
            have := i_eq (show v39 30 0 12 = v23 30 0 12 by rw [ev39]; exact up3_j (by decide))
            have := i_eq (show v39 37 0 3 = v23 37 0 3 by rw [ev39]; exact up3_t (by decide))
            have := i_eq (show v39 37 0 4 = v23 37 0 4 by rw [ev39]; exact up3_t (by decide))
            refine ok_ite _ (fun c40 => ?_) (fun c40 => ?_)
            · skip
              have ic40 := i_eq c40
              have : (0 : Int) ≤ (v39 30 0 11).toInt ∧ (v39 30 0 11).toInt ≤ (5 : Int) := hI_v39.1 30 0 11
              have : (0 : Int32).toInt = 0 := (by decide)
              refine ok_let (fun v41 ev41 => ?_)
              have hI_v41 : IM v41 := by
                rw [ev41]
                refine hI_v39.upo (by decide) ?_
                show (0 : Int) ≤ Int32.toInt ((v39 30 0 9) + 0) ∧ Int32.toInt ((v39 30 0 9) + 0) ≤ (100 : Int)
                have : (0 : Int) ≤ (v39 30 0 9).toInt ∧ (v39 30 0 9).toInt ≤ (100 : Int) := hI_v39.1 30 0 9
                have : (0 : Int32).toInt = 0 := (by decide)
                have := i_bd (v39 30 0 9)
                (first | have := sp_addx (v39 30 0 9) (0 : Int32) (by omega) | obtain ⟨k16, hk16⟩ := sp_add (v39 30 0 9) (0 : Int32))
                omega
              have := i_eq (show v41 30 0 8 = v39 30 0 8 by rw [ev41]; exact up3_j (by decide))
              have := i_eq (show v41 30 0 9 = ((v39 30 0 9) + 0) by rw [ev41]; exact up3_s)
              have : (0 : Int) ≤ (v39 30 0 9).toInt ∧ (v39 30 0 9).toInt ≤ (100 : Int) := hI_v39.1 30 0 9
              have : (0 : Int32).toInt = 0 := (by decide)
              have := i_bd (v39 30 0 9)
              (first | have := sp_addx (v39 30 0 9) (0 : Int32) (by omega) | obtain ⟨k17, hk17⟩ := sp_add (v39 30 0 9) (0 : Int32))
              have := i_eq (show v41 30 0 10 = v39 30 0 10 by rw [ev41]; exact up3_j (by decide))
              have := i_eq (show v41 30 0 11 = v39 30 0 11 by rw [ev41]; exact up3_j (by decide))
              have := i_eq (show v41 30 0 12 = v39 30 0 12 by rw [ev41]; exact up3_j (by decide))
              have := i_eq (show v41 37 0 3 = v39 37 0 3 by rw [ev41]; exact up3_t (by decide))
              have := i_eq (show v41 37 0 4 = v39 37 0 4 by rw [ev41]; exact up3_t (by decide))
              refine ok_some ?_
              show IM v41 ∧ (Int32.toInt (v41 37 0 3) = Int32.toInt (v 37 0 3)) ∧ (Int32.toInt (v41 37 0 4) = Int32.toInt (v 37 0 4)) ∧ (Int32.toInt (v41 30 0 8) = Int32.toInt (v 30 0 8))
              refine ⟨hI_v41, ?_⟩
              omega
            · skip
              have ic40 := i_ne c40
              have : (0 : Int) ≤ (v39 30 0 11).toInt ∧ (v39 30 0 11).toInt ≤ (5 : Int) := hI_v39.1 30 0 11
              have : (0 : Int32).toInt = 0 := (by decide)
              refine ok_let (fun v42 ev42 => ?_)
              have hI_v42 : IM v42 := by
                rw [ev42]
                refine hI_v39.upo (by decide) ?_
                show (0 : Int) ≤ Int32.toInt ((v39 30 0 9) + 1) ∧ Int32.toInt ((v39 30 0 9) + 1) ≤ (100 : Int)
                have : (0 : Int) ≤ (v39 30 0 9).toInt ∧ (v39 30 0 9).toInt ≤ (100 : Int) := hI_v39.1 30 0 9
                have : (1 : Int32).toInt = 1 := (by decide)
                have := i_bd (v39 30 0 9)
                (first | have := sp_addx (v39 30 0 9) (1 : Int32) (by omega) | obtain ⟨k18, hk18⟩ := sp_add (v39 30 0 9) (1 : Int32))
                omega
              have := i_eq (show v42 30 0 8 = v39 30 0 8 by rw [ev42]; exact up3_j (by decide))
              have := i_eq (show v42 30 0 9 = ((v39 30 0 9) + 1) by rw [ev42]; exact up3_s)
              have : (0 : Int) ≤ (v39 30 0 9).toInt ∧ (v39 30 0 9).toInt ≤ (100 : Int) := hI_v39.1 30 0 9
              have : (1 : Int32).toInt = 1 := (by decide)
              have := i_bd (v39 30 0 9)
              (first | have := sp_addx (v39 30 0 9) (1 : Int32) (by omega) | obtain ⟨k19, hk19⟩ := sp_add (v39 30 0 9) (1 : Int32))
              have := i_eq (show v42 30 0 10 = v39 30 0 10 by rw [ev42]; exact up3_j (by decide))
              have := i_eq (show v42 30 0 11 = v39 30 0 11 by rw [ev42]; exact up3_j (by decide))
              have := i_eq (show v42 30 0 12 = v39 30 0 12 by rw [ev42]; exact up3_j (by decide))
              have := i_eq (show v42 37 0 3 = v39 37 0 3 by rw [ev42]; exact up3_t (by decide))
              have := i_eq (show v42 37 0 4 = v39 37 0 4 by rw [ev42]; exact up3_t (by decide))
              refine ok_some ?_
              show IM v42 ∧ (Int32.toInt (v42 37 0 3) = Int32.toInt (v 37 0 3)) ∧ (Int32.toInt (v42 37 0 4) = Int32.toInt (v 37 0 4)) ∧ (Int32.toInt (v42 30 0 8) = Int32.toInt (v 30 0 8))
              refine ⟨hI_v42, ?_⟩
              omega
          · skip
            have ic38 := i_ne c38
            have : (59 : Int32).toInt = 59 := (by decide)
            refine ok_let (fun v43 ev43 => ?_)
            have hI_v43 : IM v43 := by
              rw [ev43]
              refine hI_v23.upo (by decide) ?_
              show (0 : Int) ≤ Int32.toInt (5 : Int32) ∧ Int32.toInt (5 : Int32) ≤ (5 : Int)
              have : (5 : Int32).toInt = 5 := (by decide)
              omega
            have := i_eq (show v43 30 0 8 = v23 30 0 8 by rw [ev43]; exact up3_j (by decide))
            have := i_eq (show v43 30 0 9 = v23 30 0 9 by rw [ev43]; exact up3_j (by decide))
            have := i_eq (show v43 30 0 10 = v23 30 0 10 by rw [ev43]; exact up3_j (by decide))
            have := i_eq (show v43 30 0 11 = 5 by rw [ev43]; exact up3_s)
            have : (5 : Int32).toInt = 5 := (by decide)
            have := i_eq (show v43 30 0 12 = v23 30 0 12 by rw [ev43]; exact up3_j (by decide))
            have := i_eq (show v43 37 0 3 = v23 37 0 3 by rw [ev43]; exact up3_t (by decide))
            have := i_eq (show v43 37 0 4 = v23 37 0 4 by rw [ev43]; exact up3_t (by decide))
            refine ok_ite _ (fun c44 => ?_) (fun c44 => ?_)
            · skip
              have ic44 := i_eq c44
              have : (0 : Int) ≤ (v43 30 0 11).toInt ∧ (v43 30 0 11).toInt ≤ (5 : Int) := hI_v43.1 30 0 11
              have : (0 : Int32).toInt = 0 := (by decide)
              refine ok_let (fun v45 ev45 => ?_)
              have hI_v45 : IM v45 := by
                rw [ev45]
                refine hI_v43.upo (by decide) ?_
                show (0 : Int) ≤ Int32.toInt ((v43 30 0 9) + 0) ∧ Int32.toInt ((v43 30 0 9) + 0) ≤ (100 : Int)
                have : (0 : Int) ≤ (v43 30 0 9).toInt ∧ (v43 30 0 9).toInt ≤ (100 : Int) := hI_v43.1 30 0 9
                have : (0 : Int32).toInt = 0 := (by decide)
                have := i_bd (v43 30 0 9)
                (first | have := sp_addx (v43 30 0 9) (0 : Int32) (by omega) | obtain ⟨k20, hk20⟩ := sp_add (v43 30 0 9) (0 : Int32))
                omega
              have := i_eq (show v45 30 0 8 = v43 30 0 8 by rw [ev45]; exact up3_j (by decide))
              have := i_eq (show v45 30 0 9 = ((v43 30 0 9) + 0) by rw [ev45]; exact up3_s)
              have : (0 : Int) ≤ (v43 30 0 9).toInt ∧ (v43 30 0 9).toInt ≤ (100 : Int) := hI_v43.1 30 0 9
              have : (0 : Int32).toInt = 0 := (by decide)
              have := i_bd (v43 30 0 9)
              (first | have := sp_addx (v43 30 0 9) (0 : Int32) (by omega) | obtain ⟨k21, hk21⟩ := sp_add (v43 30 0 9) (0 : Int32))
              have := i_eq (show v45 30 0 10 = v43 30 0 10 by rw [ev45]; exact up3_j (by decide))
              have := i_eq (show v45 30 0 11 = v43 30 0 11 by rw [ev45]; exact up3_j (by decide))
              have := i_eq (show v45 30 0 12 = v43 30 0 12 by rw [ev45]; exact up3_j (by decide))
              have := i_eq (show v45 37 0 3 = v43 37 0 3 by rw [ev45]; exact up3_t (by decide))
              have := i_eq (show v45 37 0 4 = v43 37 0 4 by rw [ev45]; exact up3_t (by decide))
              refine ok_some ?_
              show IM v45 ∧ (Int32.toInt (v45 37 0 3) = Int32.toInt (v 37 0 3)) ∧ (Int32.toInt (v45 37 0 4) = Int32.toInt (v 37 0 4)) ∧ (Int32.toInt (v45 30 0 8) = Int32.toInt (v 30 0 8))
              refine ⟨hI_v45, ?_⟩
              omega
            · skip
              have ic44 := i_ne c44
              have : (0 : Int) ≤ (v43 30 0 11).toInt ∧ (v43 30 0 11).toInt ≤ (5 : Int) := hI_v43.1 30 0 11
              have : (0 : Int32).toInt = 0 := (by decide)
              refine ok_let (fun v46 ev46 => ?_)
              have hI_v46 : IM v46 := by
                rw [ev46]
                refine hI_v43.upo (by decide) ?_
                show (0 : Int) ≤ Int32.toInt ((v43 30 0 9) + 1) ∧ Int32.toInt ((v43 30 0 9) + 1) ≤ (100 : Int)
                have : (0 : Int) ≤ (v43 30 0 9).toInt ∧ (v43 30 0 9).toInt ≤ (100 : Int) := hI_v43.1 30 0 9
                have : (1 : Int32).toInt = 1 := (by decide)
                have := i_bd (v43 30 0 9)
                (first | have := sp_addx (v43 30 0 9) (1 : Int32) (by omega) | obtain ⟨k22, hk22⟩ := sp_add (v43 30 0 9) (1 : Int32))
                omega
              have := i_eq (show v46 30 0 8 = v43 30 0 8 by rw [ev46]; exact up3_j (by decide))
              have := i_eq (show v46 30 0 9 = ((v43 30 0 9) + 1) by rw [ev46]; exact up3_s)
              have : (0 : Int) ≤ (v43 30 0 9).toInt ∧ (v43 30 0 9).toInt ≤ (100 : Int) := hI_v43.1 30 0 9
              have : (1 : Int32).toInt = 1 := (by decide)
              have := i_bd (v43 30 0 9)
              (first | have := sp_addx (v43 30 0 9) (1 : Int32) (by omega) | obtain ⟨k23, hk23⟩ := sp_add (v43 30 0 9) (1 : Int32))
              have := i_eq (show v46 30 0 10 = v43 30 0 10 by rw [ev46]; exact up3_j (by decide))
              have := i_eq (show v46 30 0 11 = v43 30 0 11 by rw [ev46]; exact up3_j (by decide))
              have := i_eq (show v46 30 0 12 = v43 30 0 12 by rw [ev46]; exact up3_j (by decide))
              have := i_eq (show v46 37 0 3 = v43 37 0 3 by rw [ev46]; exact up3_t (by decide))
              have := i_eq (show v46 37 0 4 = v43 37 0 4 by rw [ev46]; exact up3_t (by decide))
              refine ok_some ?_
              show IM v46 ∧ (Int32.toInt (v46 37 0 3) = Int32.toInt (v 37 0 3)) ∧ (Int32.toInt (v46 37 0 4) = Int32.toInt (v 37 0 4)) ∧ (Int32.toInt (v46 30 0 8) = Int32.toInt (v 30 0 8))
              refine ⟨hI_v46, ?_⟩
              omega
      · skip
        have ic32 : Int32.toInt r30 = 1 := one_of hr30_lo hr30_hi c32
        try replace hr30_p0 : (Int32.toInt 97 ≤ Int32.toInt r21 ∧ Int32.toInt r21 ≤ Int32.toInt 122) := orr hr30_p0 ic32
        have : (0 : Int32).toInt = 0 := (by decide)
        refine ok_let (fun v47 ev47 => ?_)
        have hI_v47 : IM v47 := by
          rw [ev47]
          refine hI_v23.upo (by decide) ?_
          show (0 : Int) ≤ Int32.toInt (1 : Int32) ∧ Int32.toInt (1 : Int32) ≤ (5 : Int)
          have : (1 : Int32).toInt = 1 := (by decide)
          omega
        have := i_eq (show v47 30 0 8 = v23 30 0 8 by rw [ev47]; exact up3_j (by decide))
        have := i_eq (show v47 30 0 9 = v23 30 0 9 by rw [ev47]; exact up3_j (by decide))
        have := i_eq (show v47 30 0 10 = v23 30 0 10 by rw [ev47]; exact up3_j (by decide))
        have := i_eq (show v47 30 0 11 = 1 by rw [ev47]; exact up3_s)
        have : (1 : Int32).toInt = 1 := (by decide)
        have := i_eq (show v47 30 0 12 = v23 30 0 12 by rw [ev47]; exact up3_j (by decide))
        have := i_eq (show v47 37 0 3 = v23 37 0 3 by rw [ev47]; exact up3_t (by decide))
        have := i_eq (show v47 37 0 4 = v23 37 0 4 by rw [ev47]; exact up3_t (by decide))
        refine ok_ite _ (fun c48 => ?_) (fun c48 => ?_)
        · skip
          have ic48 := i_eq c48
          have : (0 : Int) ≤ (v47 30 0 11).toInt ∧ (v47 30 0 11).toInt ≤ (5 : Int) := hI_v47.1 30 0 11
          have : (0 : Int32).toInt = 0 := (by decide)
          refine ok_let (fun v49 ev49 => ?_)
          have hI_v49 : IM v49 := by
            rw [ev49]
            refine hI_v47.upo (by decide) ?_
            show (0 : Int) ≤ Int32.toInt ((v47 30 0 9) + 0) ∧ Int32.toInt ((v47 30 0 9) + 0) ≤ (100 : Int)
            have : (0 : Int) ≤ (v47 30 0 9).toInt ∧ (v47 30 0 9).toInt ≤ (100 : Int) := hI_v47.1 30 0 9
            have : (0 : Int32).toInt = 0 := (by decide)
            have := i_bd (v47 30 0 9)
            (first | have := sp_addx (v47 30 0 9) (0 : Int32) (by omega) | obtain ⟨k24, hk24⟩ := sp_add (v47 30 0 9) (0 : Int32))
            omega
          have := i_eq (show v49 30 0 8 = v47 30 0 8 by rw [ev49]; exact up3_j (by decide))
          have := i_eq (show v49 30 0 9 = ((v47 30 0 9) + 0) by rw [ev49]; exact up3_s)
          have : (0 : Int) ≤ (v47 30 0 9).toInt ∧ (v47 30 0 9).toInt ≤ (100 : Int) := hI_v47.1 30 0 9
          have : (0 : Int32).toInt = 0 := (by decide)
          have := i_bd (v47 30 0 9)
          (first | have := sp_addx (v47 30 0 9) (0 : Int32) (by omega) | obtain ⟨k25, hk25⟩ := sp_add (v47 30 0 9) (0 : Int32))
          have := i_eq (show v49 30 0 10 = v47 30 0 10 by rw [ev49]; exact up3_j (by decide))
          have := i_eq (show v49 30 0 11 = v47 30 0 11 by rw [ev49]; exact up3_j (by decide))
          have := i_eq (show v49 30 0 12 = v47 30 0 12 by rw [ev49]; exact up3_j (by decide))
          have := i_eq (show v49 37 0 3 = v47 37 0 3 by rw [ev49]; exact up3_t (by decide))
          have := i_eq (show v49 37 0 4 = v47 37 0 4 by rw [ev49]; exact up3_t (by decide))
          refine ok_some ?_
          show IM v49 ∧ (Int32.toInt (v49 37 0 3) = Int32.toInt (v 37 0 3)) ∧ (Int32.toInt (v49 37 0 4) = Int32.toInt (v 37 0 4)) ∧ (Int32.toInt (v49 30 0 8) = Int32.toInt (v 30 0 8))
          refine ⟨hI_v49, ?_⟩
          omega
        · skip
          have ic48 := i_ne c48
          have : (0 : Int) ≤ (v47 30 0 11).toInt ∧ (v47 30 0 11).toInt ≤ (5 : Int) := hI_v47.1 30 0 11
          have : (0 : Int32).toInt = 0 := (by decide)
          refine ok_let (fun v50 ev50 => ?_)
          have hI_v50 : IM v50 := by
            rw [ev50]
            refine hI_v47.upo (by decide) ?_
            show (0 : Int) ≤ Int32.toInt ((v47 30 0 9) + 1) ∧ Int32.toInt ((v47 30 0 9) + 1) ≤ (100 : Int)
            have : (0 : Int) ≤ (v47 30 0 9).toInt ∧ (v47 30 0 9).toInt ≤ (100 : Int) := hI_v47.1 30 0 9
            have : (1 : Int32).toInt = 1 := (by decide)
            have := i_bd (v47 30 0 9)
            (first | have := sp_addx (v47 30 0 9) (1 : Int32) (by omega) | obtain ⟨k26, hk26⟩ := sp_add (v47 30 0 9) (1 : Int32))
            omega
          have := i_eq (show v50 30 0 8 = v47 30 0 8 by rw [ev50]; exact up3_j (by decide))
          have := i_eq (show v50 30 0 9 = ((v47 30 0 9) + 1) by rw [ev50]; exact up3_s)
          have : (0 : Int) ≤ (v47 30 0 9).toInt ∧ (v47 30 0 9).toInt ≤ (100 : Int) := hI_v47.1 30 0 9
          have : (1 : Int32).toInt = 1 := (by decide)
          have := i_bd (v47 30 0 9)
          (first | have := sp_addx (v47 30 0 9) (1 : Int32) (by omega) | obtain ⟨k27, hk27⟩ := sp_add (v47 30 0 9) (1 : Int32))
          have := i_eq (show v50 30 0 10 = v47 30 0 10 by rw [ev50]; exact up3_j (by decide))
          have := i_eq (show v50 30 0 11 = v47 30 0 11 by rw [ev50]; exact up3_j (by decide))
          have := i_eq (show v50 30 0 12 = v47 30 0 12 by rw [ev50]; exact up3_j (by decide))
          have := i_eq (show v50 37 0 3 = v47 37 0 3 by rw [ev50]; exact up3_t (by decide))
          have := i_eq (show v50 37 0 4 = v47 37 0 4 by rw [ev50]; exact up3_t (by decide))
          refine ok_some ?_
          show IM v50 ∧ (Int32.toInt (v50 37 0 3) = Int32.toInt (v 37 0 3)) ∧ (Int32.toInt (v50 37 0 4) = Int32.toInt (v 37 0 4)) ∧ (Int32.toInt (v50 30 0 8) = Int32.toInt (v 30 0 8))
          refine ⟨hI_v50, ?_⟩
          omega
    · skip
      have ic28 := i_nle c28
      have : (0 : Int32).toInt = 0 := (by decide)
      refine ok_let (fun v51 ev51 => ?_)
      have hI_v51 : IM v51 := by
        rw [ev51]
        refine hI_v23.upo (by decide) ?_
        show (0 : Int) ≤ Int32.toInt (0 : Int32) ∧ Int32.toInt (0 : Int32) ≤ (5 : Int)
        have : (0 : Int32).toInt = 0 := (by decide)
        omega
      have := i_eq (show v51 30 0 8 = v23 30 0 8 by rw [ev51]; exact up3_j (by decide))
      have := i_eq (show v51 30 0 9 = v23 30 0 9 by rw [ev51]; exact up3_j (by decide))
      have := i_eq (show v51 30 0 10 = v23 30 0 10 by rw [ev51]; exact up3_j (by decide))
      have := i_eq (show v51 30 0 11 = 0 by rw [ev51]; exact up3_s)
      have : (0 : Int32).toInt = 0 := (by decide)
      have := i_eq (show v51 30 0 12 = v23 30 0 12 by rw [ev51]; exact up3_j (by decide))
      have := i_eq (show v51 37 0 3 = v23 37 0 3 by rw [ev51]; exact up3_t (by decide))
      have := i_eq (show v51 37 0 4 = v23 37 0 4 by rw [ev51]; exact up3_t (by decide))
      refine ok_ite _ (fun c52 => ?_) (fun c52 => ?_)
      · skip
        have ic52 := i_eq c52
        have : (0 : Int) ≤ (v51 30 0 11).toInt ∧ (v51 30 0 11).toInt ≤ (5 : Int) := hI_v51.1 30 0 11
        have : (0 : Int32).toInt = 0 := (by decide)
        refine ok_let (fun v53 ev53 => ?_)
        have hI_v53 : IM v53 := by
          rw [ev53]
          refine hI_v51.upo (by decide) ?_
          show (0 : Int) ≤ Int32.toInt ((v51 30 0 9) + 0) ∧ Int32.toInt ((v51 30 0 9) + 0) ≤ (100 : Int)
          have : (0 : Int) ≤ (v51 30 0 9).toInt ∧ (v51 30 0 9).toInt ≤ (100 : Int) := hI_v51.1 30 0 9
          have : (0 : Int32).toInt = 0 := (by decide)
          have := i_bd (v51 30 0 9)
          (first | have := sp_addx (v51 30 0 9) (0 : Int32) (by omega) | obtain ⟨k28, hk28⟩ := sp_add (v51 30 0 9) (0 : Int32))
          omega
        have := i_eq (show v53 30 0 8 = v51 30 0 8 by rw [ev53]; exact up3_j (by decide))
        have := i_eq (show v53 30 0 9 = ((v51 30 0 9) + 0) by rw [ev53]; exact up3_s)
        have : (0 : Int) ≤ (v51 30 0 9).toInt ∧ (v51 30 0 9).toInt ≤ (100 : Int) := hI_v51.1 30 0 9
        have : (0 : Int32).toInt = 0 := (by decide)
        have := i_bd (v51 30 0 9)
        (first | have := sp_addx (v51 30 0 9) (0 : Int32) (by omega) | obtain ⟨k29, hk29⟩ := sp_add (v51 30 0 9) (0 : Int32))
        have := i_eq (show v53 30 0 10 = v51 30 0 10 by rw [ev53]; exact up3_j (by decide))
        have := i_eq (show v53 30 0 11 = v51 30 0 11 by rw [ev53]; exact up3_j (by decide))
        have := i_eq (show v53 30 0 12 = v51 30 0 12 by rw [ev53]; exact up3_j (by decide))
        have := i_eq (show v53 37 0 3 = v51 37 0 3 by rw [ev53]; exact up3_t (by decide))
        have := i_eq (show v53 37 0 4 = v51 37 0 4 by rw [ev53]; exact up3_t (by decide))
        refine ok_some ?_
        show IM v53 ∧ (Int32.toInt (v53 37 0 3) = Int32.toInt (v 37 0 3)) ∧ (Int32.toInt (v53 37 0 4) = Int32.toInt (v 37 0 4)) ∧ (Int32.toInt (v53 30 0 8) = Int32.toInt (v 30 0 8))
        refine ⟨hI_v53, ?_⟩
        omega
      · skip
        have ic52 := i_ne c52
        have : (0 : Int) ≤ (v51 30 0 11).toInt ∧ (v51 30 0 11).toInt ≤ (5 : Int) := hI_v51.1 30 0 11
        have : (0 : Int32).toInt = 0 := (by decide)
        refine ok_let (fun v54 ev54 => ?_)
        have hI_v54 : IM v54 := by
          rw [ev54]
          refine hI_v51.upo (by decide) ?_
          show (0 : Int) ≤ Int32.toInt ((v51 30 0 9) + 1) ∧ Int32.toInt ((v51 30 0 9) + 1) ≤ (100 : Int)
          have : (0 : Int) ≤ (v51 30 0 9).toInt ∧ (v51 30 0 9).toInt ≤ (100 : Int) := hI_v51.1 30 0 9
          have : (1 : Int32).toInt = 1 := (by decide)
          have := i_bd (v51 30 0 9)
          (first | have := sp_addx (v51 30 0 9) (1 : Int32) (by omega) | obtain ⟨k30, hk30⟩ := sp_add (v51 30 0 9) (1 : Int32))
          omega
        have := i_eq (show v54 30 0 8 = v51 30 0 8 by rw [ev54]; exact up3_j (by decide))
        have := i_eq (show v54 30 0 9 = ((v51 30 0 9) + 1) by rw [ev54]; exact up3_s)
        have : (0 : Int) ≤ (v51 30 0 9).toInt ∧ (v51 30 0 9).toInt ≤ (100 : Int) := hI_v51.1 30 0 9
        have : (1 : Int32).toInt = 1 := (by decide)
        have := i_bd (v51 30 0 9)
        (first | have := sp_addx (v51 30 0 9) (1 : Int32) (by omega) | obtain ⟨k31, hk31⟩ := sp_add (v51 30 0 9) (1 : Int32))
        have := i_eq (show v54 30 0 10 = v51 30 0 10 by rw [ev54]; exact up3_j (by decide))
        have := i_eq (show v54 30 0 11 = v51 30 0 11 by rw [ev54]; exact up3_j (by decide))
        have := i_eq (show v54 30 0 12 = v51 30 0 12 by rw [ev54]; exact up3_j (by decide))
        have := i_eq (show v54 37 0 3 = v51 37 0 3 by rw [ev54]; exact up3_t (by decide))
        have := i_eq (show v54 37 0 4 = v51 37 0 4 by rw [ev54]; exact up3_t (by decide))
        refine ok_some ?_
        show IM v54 ∧ (Int32.toInt (v54 37 0 3) = Int32.toInt (v 37 0 3)) ∧ (Int32.toInt (v54 37 0 4) = Int32.toInt (v 37 0 4)) ∧ (Int32.toInt (v54 30 0 8) = Int32.toInt (v 30 0 8))
        refine ⟨hI_v54, ?_⟩
        omega
  · skip
    have ic27 : Int32.toInt r25 = 1 := one_of hr25_lo hr25_hi c27
    try replace hr25_p0 : (Int32.toInt 48 ≤ Int32.toInt r21 ∧ Int32.toInt r21 ≤ Int32.toInt 57) := orr hr25_p0 ic27
    have : (0 : Int32).toInt = 0 := (by decide)
    refine ok_let (fun v55 ev55 => ?_)
    have hI_v55 : IM v55 := by rw [ev55]; exact hI_v23.upo (by decide) (by have h9 := i_bd (0 : Int32); exact ⟨h9.1, Int.le_of_lt_add_one h9.2⟩)
    have := i_eq (show v55 30 0 8 = v23 30 0 8 by rw [ev55]; exact up3_j (by decide))
    have := i_eq (show v55 30 0 9 = v23 30 0 9 by rw [ev55]; exact up3_j (by decide))
    have := i_eq (show v55 30 0 10 = v23 30 0 10 by rw [ev55]; exact up3_j (by decide))
    have := i_eq (show v55 30 0 11 = v23 30 0 11 by rw [ev55]; exact up3_j (by decide))
    have := i_eq (show v55 30 0 12 = 0 by rw [ev55]; exact up3_s)
    have : (0 : Int32).toInt = 0 := (by decide)
    have := i_eq (show v55 37 0 3 = v23 37 0 3 by rw [ev55]; exact up3_t (by decide))
    have := i_eq (show v55 37 0 4 = v23 37 0 4 by rw [ev55]; exact up3_t (by decide))
    exact loop38 2000 v55 r21 hI_v55 (by omega) (by omega) (by omega) (by omega)
