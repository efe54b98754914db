set_option maxHeartbeats 4000000 in
theorem k_X8_byteAt (v : Mm) (hI_v : IM v) (a1 : Int32) (h_a1 : (0 : Int) ≤ a1.toInt ∧ a1.toInt ≤ (100 : Int)) : ok (g_X8_byteAt v a1) (fun z => (-1 : Int) ≤ Int32.toInt z ∧ Int32.toInt z ≤ (255 : Int) ∧ (Int32.toInt z = -1 ∨ Int32.toInt a1 < Int32.toInt (v 30 0 6))) := by
  have : ((v 36 0 3).toInt = 0 ∧ (v 36 0 4).toInt = 0) ∨ (0 < (v 36 0 3).toInt ∧ 0 < (v 36 0 4).toInt) := hI_v.2.1
  unfold g_X8_byteAt
  refine ok_ite _ (fun c1 => ?_) (fun c1 => ?_)
  · skip
    have ic1 := i_le c1
    have : (0 : Int) ≤ (v 30 0 6).toInt ∧ (v 30 0 6).toInt ≤ (100 : Int) := hI_v.1 30 0 6
    refine ok_some ?_
    show (-1 : Int) ≤ Int32.toInt (-1 : Int32) ∧ Int32.toInt (-1 : Int32) ≤ (255 : Int) ∧ (Int32.toInt (-1 : Int32) = -1 ∨ Int32.toInt a1 < Int32.toInt (v 30 0 6))
    have : (-1 : Int32).toInt = -1 := (by decide)
    omega
  · skip
    have ic1 := i_nle c1
    have : (0 : Int) ≤ (v 30 0 6).toInt ∧ (v 30 0 6).toInt ≤ (100 : Int) := hI_v.1 30 0 6
    refine ok_grd _ ?_ ?_
    · skip
      exact gr (by omega) (by omega)
    refine ok_some ?_
    show (-1 : Int) ≤ Int32.toInt (v 35 0 (Int32.toNatClampNeg a1)) ∧ Int32.toInt (v 35 0 (Int32.toNatClampNeg a1)) ≤ (255 : Int) ∧ (Int32.toInt (v 35 0 (Int32.toNatClampNeg a1)) = -1 ∨ Int32.toInt a1 < Int32.toInt (v 30 0 6))
    have : (0 : Int) ≤ (v 35 0 (Int32.toNatClampNeg a1)).toInt ∧ (v 35 0 (Int32.toNatClampNeg a1)).toInt ≤ (255 : Int) := hI_v.1 35 0 (Int32.toNatClampNeg a1)
    omega
set_option maxHeartbeats 4000000 in
theorem k_X8_advances (v : Mm) (hI_v : IM v)  : ok (g_X8_advances v ) (fun z => IM z ∧ (Int32.toInt (z 37 0 3) = Int32.toInt (v 37 0 3)) ∧ (Int32.toInt (z 37 0 4) = Int32.toInt (v 37 0 4)) ∧ (Int32.toInt (z 30 0 8) = Int32.toInt (v 30 0 8))) := by
  have : ((v 36 0 3).toInt = 0 ∧ (v 36 0 4).toInt = 0) ∨ (0 < (v 36 0 3).toInt ∧ 0 < (v 36 0 4).toInt) := hI_v.2.1
  have loop38 : ∀ (n38 : Nat) (w38 : Mm) (x1_38 : Int32), (IM w38) → (Int32.toInt (w38 37 0 3) = Int32.toInt (v 37 0 3)) → (Int32.toInt (w38 37 0 4) = Int32.toInt (v 37 0 4)) → (Int32.toInt (w38 30 0 8) = Int32.toInt (v 30 0 8)) → (100 - Int32.toInt (w38 30 0 9) < (n38 : Int)) → ok (g_X8_advances_L38   n38 w38 x1_38) (fun z => IM z ∧ (Int32.toInt (z 37 0 3) = Int32.toInt (v 37 0 3)) ∧ (Int32.toInt (z 37 0 4) = Int32.toInt (v 37 0 4)) ∧ (Int32.toInt (z 30 0 8) = Int32.toInt (v 30 0 8))) := by
    intro n38
    induction n38 with
    | zero =>
      intro w38 x1_38 hI_w38 hv0_38 hv1_38 hv2_38 hm38
      exfalso
      have : (0 : Int) ≤ (w38 37 0 3).toInt ∧ (w38 37 0 3).toInt ≤ (6 : Int) := hI_w38.1 37 0 3
      have : (0 : Int) ≤ (v 37 0 3).toInt ∧ (v 37 0 3).toInt ≤ (6 : Int) := hI_v.1 37 0 3
      have : (0 : Int) ≤ (w38 37 0 4).toInt ∧ (w38 37 0 4).toInt ≤ (4 : Int) := hI_w38.1 37 0 4
      have : (0 : Int) ≤ (v 37 0 4).toInt ∧ (v 37 0 4).toInt ≤ (4 : Int) := hI_v.1 37 0 4
      have : (-1 : Int) ≤ (w38 30 0 8).toInt ∧ (w38 30 0 8).toInt ≤ (100 : Int) := hI_w38.1 30 0 8
      have : (-1 : Int) ≤ (v 30 0 8).toInt ∧ (v 30 0 8).toInt ≤ (100 : Int) := hI_v.1 30 0 8
      have : (0 : Int) ≤ (w38 30 0 9).toInt ∧ (w38 30 0 9).toInt ≤ (100 : Int) := hI_w38.1 30 0 9
      omega
    | succ n38 ih38 =>
      intro w38 x1_38 hI_w38 hv0_38 hv1_38 hv2_38 hm38
      show ok (b_X8_advances_L38  (g_X8_advances_L38   n38)  w38 x1_38) _
      unfold b_X8_advances_L38
      have : ((w38 36 0 3).toInt = 0 ∧ (w38 36 0 4).toInt = 0) ∨ (0 < (w38 36 0 3).toInt ∧ 0 < (w38 36 0 4).toInt) := hI_w38.2.1
      have : (0 : Int) ≤ (w38 37 0 3).toInt ∧ (w38 37 0 3).toInt ≤ (6 : Int) := hI_w38.1 37 0 3
      have : (0 : Int) ≤ (v 37 0 3).toInt ∧ (v 37 0 3).toInt ≤ (6 : Int) := hI_v.1 37 0 3
      have : (0 : Int) ≤ (w38 37 0 4).toInt ∧ (w38 37 0 4).toInt ≤ (4 : Int) := hI_w38.1 37 0 4
      have : (0 : Int) ≤ (v 37 0 4).toInt ∧ (v 37 0 4).toInt ≤ (4 : Int) := hI_v.1 37 0 4
      have : (-1 : Int) ≤ (w38 30 0 8).toInt ∧ (w38 30 0 8).toInt ≤ (100 : Int) := hI_w38.1 30 0 8
      have : (-1 : Int) ≤ (v 30 0 8).toInt ∧ (v 30 0 8).toInt ≤ (100 : Int) := hI_v.1 30 0 8
      have : (0 : Int) ≤ (w38 30 0 9).toInt ∧ (w38 30 0 9).toInt ≤ (100 : Int) := hI_w38.1 30 0 9
      refine ok_bind (k_X8_byteAt w38 hI_w38 (w38 30 0 9) (by have : (0 : Int) ≤ (w38 30 0 9).toInt ∧ (w38 30 0 9).toInt ≤ (100 : Int) := hI_w38.1 30 0 9; omega)) (fun r2 hr2 => ?_)
      have hr2 : (-1 : Int) ≤ Int32.toInt r2 ∧ Int32.toInt r2 ≤ (255 : Int) ∧ (Int32.toInt r2 = -1 ∨ Int32.toInt (w38 30 0 9) < Int32.toInt (w38 30 0 6)) := hr2
      have : (0 : Int) ≤ (w38 30 0 9).toInt ∧ (w38 30 0 9).toInt ≤ (100 : Int) := hI_w38.1 30 0 9
      have : (0 : Int) ≤ (w38 30 0 6).toInt ∧ (w38 30 0 6).toInt ≤ (100 : Int) := hI_w38.1 30 0 6
      have : (0 : Int) ≤ (w38 30 0 9).toInt ∧ (w38 30 0 9).toInt ≤ (100 : Int) := hI_w38.1 30 0 9
      refine ok_bind (k_X8_in w38 hI_w38 r2 48 57 ) (fun r5 hr5 => ?_)
      have hr5 : (0 : Int) ≤ Int32.toInt r5 ∧ Int32.toInt r5 ≤ (1 : Int) ∧ (Int32.toInt r5 = 0 ∨ (Int32.toInt 48 ≤ Int32.toInt r2 ∧ Int32.toInt r2 ≤ Int32.toInt 57)) := hr5
      have : (48 : Int32).toInt = 48 := (by decide)
      have : (57 : Int32).toInt = 57 := (by decide)
      refine ok_ite _ (fun c7 => ?_) (fun c7 => ?_)
      · skip
        have ic7 := i_eq c7
        have : (0 : Int32).toInt = 0 := (by decide)
        refine ok_ite _ (fun c8 => ?_) (fun c8 => ?_)
        · skip
          have ic8 := i_le c8
          have : (0 : Int) ≤ (w38 30 0 9).toInt ∧ (w38 30 0 9).toInt ≤ (100 : Int) := hI_w38.1 30 0 9
          have : (0 : Int) ≤ (w38 30 0 10).toInt ∧ (w38 30 0 10).toInt ≤ (100 : Int) := hI_w38.1 30 0 10
          have := i_bd (w38 30 0 9)
          have := i_bd (w38 30 0 10)
          (first | have := sp_subx (w38 30 0 9) (w38 30 0 10) (by omega) | obtain ⟨k1, hk1⟩ := sp_sub (w38 30 0 9) (w38 30 0 10))
          have : (3 : Int32).toInt = 3 := (by decide)
          refine ok_let (fun v9 ev9 => ?_)
          have hI_v9 : IM v9 := by
            rw [ev9]
            refine hI_w38.upo (by decide) ?_
            show (0 : Int) ≤ Int32.toInt (5 : Int32) ∧ Int32.toInt (5 : Int32) ≤ (5 : Int)
            have : (5 : Int32).toInt = 5 := (by decide)
            omega
          have := i_eq (show v9 30 0 8 = w38 30 0 8 by rw [ev9]; exact up3_j (by decide))
          have := i_eq (show v9 30 0 9 = w38 30 0 9 by rw [ev9]; exact up3_j (by decide))
          have := i_eq (show v9 30 0 10 = w38 30 0 10 by rw [ev9]; exact up3_j (by decide))
          have := i_eq (show v9 30 0 11 = 5 by rw [ev9]; exact up3_s)
          have : (5 : Int32).toInt = 5 := (by decide)
          have := i_eq (show v9 30 0 12 = w38 30 0 12 by rw [ev9]; exact up3_j (by decide))
          have := i_eq (show v9 37 0 3 = w38 37 0 3 by rw [ev9]; exact up3_t (by decide))
          have := i_eq (show v9 37 0 4 = w38 37 0 4 by rw [ev9]; exact up3_t (by decide))
          have : ((v9 36 0 3).toInt = 0 ∧ (v9 36 0 4).toInt = 0) ∨ (0 < (v9 36 0 3).toInt ∧ 0 < (v9 36 0 4).toInt) := hI_v9.2.1
          refine ok_some ?_
          show IM v9 ∧ (Int32.toInt (v9 37 0 3) = Int32.toInt (v 37 0 3)) ∧ (Int32.toInt (v9 37 0 4) = Int32.toInt (v 37 0 4)) ∧ (Int32.toInt (v9 30 0 8) = Int32.toInt (v 30 0 8))
          refine ⟨hI_v9, ?_⟩
          omega
        · skip
          have ic8 := i_nle c8
          have : (0 : Int) ≤ (w38 30 0 9).toInt ∧ (w38 30 0 9).toInt ≤ (100 : Int) := hI_w38.1 30 0 9
          have : (0 : Int) ≤ (w38 30 0 10).toInt ∧ (w38 30 0 10).toInt ≤ (100 : Int) := hI_w38.1 30 0 10
          have := i_bd (w38 30 0 9)
          have := i_bd (w38 30 0 10)
          (first | have := sp_subx (w38 30 0 9) (w38 30 0 10) (by omega) | obtain ⟨k2, hk2⟩ := sp_sub (w38 30 0 9) (w38 30 0 10))
          have : (3 : Int32).toInt = 3 := (by decide)
          refine ok_let (fun v10 ev10 => ?_)
          have hI_v10 : IM v10 := by
            rw [ev10]
            refine hI_w38.upo (by decide) ?_
            show (0 : Int) ≤ Int32.toInt (2 : Int32) ∧ Int32.toInt (2 : Int32) ≤ (5 : Int)
            have : (2 : Int32).toInt = 2 := (by decide)
            omega
          have := i_eq (show v10 30 0 8 = w38 30 0 8 by rw [ev10]; exact up3_j (by decide))
          have := i_eq (show v10 30 0 9 = w38 30 0 9 by rw [ev10]; exact up3_j (by decide))
          have := i_eq (show v10 30 0 10 = w38 30 0 10 by rw [ev10]; exact up3_j (by decide))
          have := i_eq (show v10 30 0 11 = 2 by rw [ev10]; exact up3_s)
          have : (2 : Int32).toInt = 2 := (by decide)
          have := i_eq (show v10 30 0 12 = w38 30 0 12 by rw [ev10]; exact up3_j (by decide))
          have := i_eq (show v10 37 0 3 = w38 37 0 3 by rw [ev10]; exact up3_t (by decide))
          have := i_eq (show v10 37 0 4 = w38 37 0 4 by rw [ev10]; exact up3_t (by decide))
          have : ((v10 36 0 3).toInt = 0 ∧ (v10 36 0 4).toInt = 0) ∨ (0 < (v10 36 0 3).toInt ∧ 0 < (v10 36 0 4).toInt) := hI_v10.2.1
          refine ok_some ?_
          show IM v10 ∧ (Int32.toInt (v10 37 0 3) = Int32.toInt (v 37 0 3)) ∧ (Int32.toInt (v10 37 0 4) = Int32.toInt (v 37 0 4)) ∧ (Int32.toInt (v10 30 0 8) = Int32.toInt (v 30 0 8))
          refine ⟨hI_v10, ?_⟩
          omega
      · skip
        have ic7 := i_ne c7
        have : (0 : Int32).toInt = 0 := (by decide)
        refine ok_ite _ (fun c11 => ?_) (fun c11 => ?_)
        · skip
          have ic11 := i_le c11
          have : (0 : Int) ≤ (w38 30 0 9).toInt ∧ (w38 30 0 9).toInt ≤ (100 : Int) := hI_w38.1 30 0 9
          have : (0 : Int) ≤ (w38 30 0 10).toInt ∧ (w38 30 0 10).toInt ≤ (100 : Int) := hI_w38.1 30 0 10
          have := i_bd (w38 30 0 9)
          have := i_bd (w38 30 0 10)
          (first | have := sp_subx (w38 30 0 9) (w38 30 0 10) (by omega) | obtain ⟨k3, hk3⟩ := sp_sub (w38 30 0 9) (w38 30 0 10))
          have : (2 : Int32).toInt = 2 := (by decide)
          refine ok_let (fun v12 ev12 => ?_)
          have hI_v12 : IM v12 := by rw [ev12]; exact hI_w38.upo (by decide) (by have h9 := i_bd (w38 30 0 12); exact ⟨h9.1, Int.le_of_lt_add_one h9.2⟩)
          have := i_eq (show v12 30 0 8 = w38 30 0 8 by rw [ev12]; exact up3_j (by decide))
          have := i_eq (show v12 30 0 9 = w38 30 0 9 by rw [ev12]; exact up3_j (by decide))
          have := i_eq (show v12 30 0 10 = w38 30 0 10 by rw [ev12]; exact up3_j (by decide))
          have := i_eq (show v12 30 0 11 = w38 30 0 11 by rw [ev12]; exact up3_j (by decide))
          have := i_eq (show v12 30 0 12 = (w38 30 0 12) by rw [ev12]; exact up3_s)
          have := i_eq (show v12 37 0 3 = w38 37 0 3 by rw [ev12]; exact up3_t (by decide))
          have := i_eq (show v12 37 0 4 = w38 37 0 4 by rw [ev12]; exact up3_t (by decide))
          have : ((v12 36 0 3).toInt = 0 ∧ (v12 36 0 4).toInt = 0) ∨ (0 < (v12 36 0 3).toInt ∧ 0 < (v12 36 0 4).toInt) := hI_v12.2.1
          refine ok_let (fun v13 ev13 => ?_)
          have hI_v13 : IM v13 := by
            rw [ev13]
            refine hI_v12.upo (by decide) ?_
            show (0 : Int) ≤ Int32.toInt ((v12 30 0 9) + 1) ∧ Int32.toInt ((v12 30 0 9) + 1) ≤ (100 : Int)
            have : (0 : Int) ≤ (v12 30 0 9).toInt ∧ (v12 30 0 9).toInt ≤ (100 : Int) := hI_v12.1 30 0 9
            have : (1 : Int32).toInt = 1 := (by decide)
            have := i_bd (v12 30 0 9)
            (first | have := sp_addx (v12 30 0 9) (1 : Int32) (by omega) | obtain ⟨k4, hk4⟩ := sp_add (v12 30 0 9) (1 : Int32))
            omega
          have := i_eq (show v13 30 0 8 = v12 30 0 8 by rw [ev13]; exact up3_j (by decide))
          have := i_eq (show v13 30 0 9 = ((v12 30 0 9) + 1) by rw [ev13]; exact up3_s)
          have : (0 : Int) ≤ (v12 30 0 9).toInt ∧ (v12 30 0 9).toInt ≤ (100 : Int) := hI_v12.1 30 0 9
          have : (1 : Int32).toInt = 1 := (by decide)
          have := i_bd (v12 30 0 9)
          (first | have := sp_addx (v12 30 0 9) (1 : Int32) (by omega) | obtain ⟨k5, hk5⟩ := sp_add (v12 30 0 9) (1 : Int32))
          have := i_eq (show v13 30 0 10 = v12 30 0 10 by rw [ev13]; exact up3_j (by decide))
          have := i_eq (show v13 30 0 11 = v12 30 0 11 by rw [ev13]; exact up3_j (by decide))
          have := i_eq (show v13 30 0 12 = v12 30 0 12 by rw [ev13]; exact up3_j (by decide))
          have := i_eq (show v13 37 0 3 = v12 37 0 3 by rw [ev13]; exact up3_t (by decide))
          have := i_eq (show v13 37 0 4 = v12 37 0 4 by rw [ev13]; exact up3_t (by decide))
          have : ((v13 36 0 3).toInt = 0 ∧ (v13 36 0 4).toInt = 0) ∨ (0 < (v13 36 0 3).toInt ∧ 0 < (v13 36 0 4).toInt) := hI_v13.2.1
          exact ih38 v13 x1_38 hI_v13 (by omega) (by omega) (by omega) (by omega)
        · skip
          have ic11 := i_nle c11
          have : (0 : Int) ≤ (w38 30 0 9).toInt ∧ (w38 30 0 9).toInt ≤ (100 : Int) := hI_w38.1 30 0 9
          have : (0 : Int) ≤ (w38 30 0 10).toInt ∧ (w38 30 0 10).toInt ≤ (100 : Int) := hI_w38.1 30 0 10
          have := i_bd (w38 30 0 9)
          have := i_bd (w38 30 0 10)
          (first | have := sp_subx (w38 30 0 9) (w38 30 0 10) (by omega) | obtain ⟨k6, hk6⟩ := sp_sub (w38 30 0 9) (w38 30 0 10))
          have : (2 : Int32).toInt = 2 := (by decide)
          refine ok_bind (k_X8_byteAt w38 hI_w38 (w38 30 0 9) (by have : (0 : Int) ≤ (w38 30 0 9).toInt ∧ (w38 30 0 9).toInt ≤ (100 : Int) := hI_w38.1 30 0 9; omega)) (fun r15 hr15 => ?_)
          have hr15 : (-1 : Int) ≤ Int32.toInt r15 ∧ Int32.toInt r15 ≤ (255 : Int) ∧ (Int32.toInt r15 = -1 ∨ Int32.toInt (w38 30 0 9) < Int32.toInt (w38 30 0 6)) := hr15
          have : (0 : Int) ≤ (w38 30 0 9).toInt ∧ (w38 30 0 9).toInt ≤ (100 : Int) := hI_w38.1 30 0 9
          have : (0 : Int) ≤ (w38 30 0 6).toInt ∧ (w38 30 0 6).toInt ≤ (100 : Int) := hI_w38.1 30 0 6
          have : (0 : Int) ≤ (w38 30 0 9).toInt ∧ (w38 30 0 9).toInt ≤ (100 : Int) := hI_w38.1 30 0 9
          refine ok_let (fun v17 ev17 => ?_)
          have hI_v17 : IM v17 := by rw [ev17]; exact hI_w38.upo (by decide) (by have h9 := i_bd ((((10 : Int32) * (w38 30 0 12)) + r15) - 48); exact ⟨h9.1, Int.le_of_lt_add_one h9.2⟩)
          have := i_eq (show v17 30 0 8 = w38 30 0 8 by rw [ev17]; exact up3_j (by decide))
          have := i_eq (show v17 30 0 9 = w38 30 0 9 by rw [ev17]; exact up3_j (by decide))
          have := i_eq (show v17 30 0 10 = w38 30 0 10 by rw [ev17]; exact up3_j (by decide))
          have := i_eq (show v17 30 0 11 = w38 30 0 11 by rw [ev17]; exact up3_j (by decide))
          have := i_eq (show v17 30 0 12 = ((((10 : Int32) * (w38 30 0 12)) + r15) - 48) by rw [ev17]; exact up3_s)
          have : (10 : Int32).toInt = 10 := (by decide)
          (first | have := sp_cmulx (10 : Int32) (w38 30 0 12) 10 (by decide) (by omega) | obtain ⟨k7, hk7⟩ := sp_cmul (10 : Int32) (w38 30 0 12) 10 (by decide))
          have := i_bd r15
          (first | have := sp_addx ((10 : Int32) * (w38 30 0 12)) r15 (by omega) | obtain ⟨k8, hk8⟩ := sp_add ((10 : Int32) * (w38 30 0 12)) r15)
          have : (48 : Int32).toInt = 48 := (by decide)
          (first | have := sp_subx (((10 : Int32) * (w38 30 0 12)) + r15) (48 : Int32) (by omega) | obtain ⟨k9, hk9⟩ := sp_sub (((10 : Int32) * (w38 30 0 12)) + r15) (48 : Int32))
          have := i_eq (show v17 37 0 3 = w38 37 0 3 by rw [ev17]; exact up3_t (by decide))
          have := i_eq (show v17 37 0 4 = w38 37 0 4 by rw [ev17]; exact up3_t (by decide))
          have : ((v17 36 0 3).toInt = 0 ∧ (v17 36 0 4).toInt = 0) ∨ (0 < (v17 36 0 3).toInt ∧ 0 < (v17 36 0 4).toInt) := hI_v17.2.1
          refine ok_let (fun v18 ev18 => ?_)
          have hI_v18 : IM v18 := by
            rw [ev18]
            refine hI_v17.upo (by decide) ?_
            show (0 : Int) ≤ Int32.toInt ((v17 30 0 9) + 1) ∧ Int32.toInt ((v17 30 0 9) + 1) ≤ (100 : Int)
            have : (0 : Int) ≤ (v17 30 0 9).toInt ∧ (v17 30 0 9).toInt ≤ (100 : Int) := hI_v17.1 30 0 9
            have : (1 : Int32).toInt = 1 := (by decide)
            have := i_bd (v17 30 0 9)
            (first | have := sp_addx (v17 30 0 9) (1 : Int32) (by omega) | obtain ⟨k10, hk10⟩ := sp_add (v17 30 0 9) (1 : Int32))
            omega
          have := i_eq (show v18 30 0 8 = v17 30 0 8 by rw [ev18]; exact up3_j (by decide))
          have := i_eq (show v18 30 0 9 = ((v17 30 0 9) + 1) by rw [ev18]; exact up3_s)
          have : (0 : Int) ≤ (v17 30 0 9).toInt ∧ (v17 30 0 9).toInt ≤ (100 : Int) := hI_v17.1 30 0 9
          have : (1 : Int32).toInt = 1 := (by decide)
          have := i_bd (v17 30 0 9)
          (first | have := sp_addx (v17 30 0 9) (1 : Int32) (by omega) | obtain ⟨k11, hk11⟩ := sp_add (v17 30 0 9) (1 : Int32))
          have := i_eq (show v18 30 0 10 = v17 30 0 10 by rw [ev18]; exact up3_j (by decide))
          have := i_eq (show v18 30 0 11 = v17 30 0 11 by rw [ev18]; exact up3_j (by decide))
          have := i_eq (show v18 30 0 12 = v17 30 0 12 by rw [ev18]; exact up3_j (by decide))
          have := i_eq (show v18 37 0 3 = v17 37 0 3 by rw [ev18]; exact up3_t (by decide))
          have := i_eq (show v18 37 0 4 = v17 37 0 4 by rw [ev18]; exact up3_t (by decide))
          have : ((v18 36 0 3).toInt = 0 ∧ (v18 36 0 4).toInt = 0) ∨ (0 < (v18 36 0 3).toInt ∧ 0 < (v18 36 0 4).toInt) := hI_v18.2.1
          exact ih38 v18 x1_38 hI_v18 (by omega) (by omega) (by omega) (by omega)
  unfold g_X8_advances
  refine ok_let (fun v19 ev19 => ?_)
  have hI_v19 : IM v19 := by
    rw [ev19]
    refine hI_v.upo (by decide) ?_
    show (0 : Int) ≤ Int32.toInt (v 30 0 9) ∧ Int32.toInt (v 30 0 9) ≤ (100 : Int)
    have : (0 : Int) ≤ (v 30 0 9).toInt ∧ (v 30 0 9).toInt ≤ (100 : Int) := hI_v.1 30 0 9
    omega
  have := i_eq (show v19 30 0 8 = v 30 0 8 by rw [ev19]; exact up3_j (by decide))
  have := i_eq (show v19 30 0 9 = v 30 0 9 by rw [ev19]; exact up3_j (by decide))
  have := i_eq (show v19 30 0 10 = (v 30 0 9) by rw [ev19]; exact up3_s)
  have : (0 : Int) ≤ (v 30 0 9).toInt ∧ (v 30 0 9).toInt ≤ (100 : Int) := hI_v.1 30 0 9
  have := i_eq (show v19 30 0 11 = v 30 0 11 by rw [ev19]; exact up3_j (by decide))
  have := i_eq (show v19 30 0 12 = v 30 0 12 by rw [ev19]; exact up3_j (by decide))
  have := i_eq (show v19 37 0 3 = v 37 0 3 by rw [ev19]; exact up3_t (by decide))
  have := i_eq (show v19 37 0 4 = v 37 0 4 by rw [ev19]; exact up3_t (by decide))
  have : ((v19 36 0 3).toInt = 0 ∧ (v19 36 0 4).toInt = 0) ∨ (0 < (v19 36 0 3).toInt ∧ 0 < (v19 36 0 4).toInt) := hI_v19.2.1
  refine ok_bind (k_X8_byteAt v19 hI_v19 (v19 30 0 9) (by have : (0 : Int) ≤ (v19 30 0 9).toInt ∧ (v19 30 0 9).toInt ≤ (100 : Int) := hI_v19.1 30 0 9; omega)) (fun r21 hr21 => ?_)
  have hr21 : (-1 : Int) ≤ Int32.toInt r21 ∧ Int32.toInt r21 ≤ (255 : Int) ∧ (Int32.toInt r21 = -1 ∨ Int32.toInt (v19 30 0 9) < Int32.toInt (v19 30 0 6)) := hr21
  have : (0 : Int) ≤ (v19 30 0 9).toInt ∧ (v19 30 0 9).toInt ≤ (100 : Int) := hI_v19.1 30 0 9
  have : (0 : Int) ≤ (v19 30 0 6).toInt ∧ (v19 30 0 6).toInt ≤ (100 : Int) := hI_v19.1 30 0 6
  have : (0 : Int) ≤ (v19 30 0 9).toInt ∧ (v19 30 0 9).toInt ≤ (100 : Int) := hI_v19.1 30 0 9
  refine ok_let (fun v23 ev23 => ?_)
  have hI_v23 : IM v23 := by rw [ev23]; exact hI_v19.upo (by decide) (by have h9 := i_bd r21; exact ⟨h9.1, Int.le_of_lt_add_one h9.2⟩)
  have := i_eq (show v23 30 0 8 = v19 30 0 8 by rw [ev23]; exact up3_j (by decide))
  have := i_eq (show v23 30 0 9 = v19 30 0 9 by rw [ev23]; exact up3_j (by decide))
  have := i_eq (show v23 30 0 10 = v19 30 0 10 by rw [ev23]; exact up3_j (by decide))
  have := i_eq (show v23 30 0 11 = v19 30 0 11 by rw [ev23]; exact up3_j (by decide))
  have := i_eq (show v23 30 0 12 = r21 by rw [ev23]; exact up3_s)
  have := i_eq (show v23 37 0 3 = v19 37 0 3 by rw [ev23]; exact up3_t (by decide))
  have := i_eq (show v23 37 0 4 = v19 37 0 4 by rw [ev23]; exact up3_t (by decide))
  have : ((v23 36 0 3).toInt = 0 ∧ (v23 36 0 4).toInt = 0) ∨ (0 < (v23 36 0 3).toInt ∧ 0 < (v23 36 0 4).toInt) := hI_v23.2.1
  refine ok_bind (k_X8_in v23 hI_v23 r21 48 57 ) (fun r25 hr25 => ?_)
  have hr25 : (0 : Int) ≤ Int32.toInt r25 ∧ Int32.toInt r25 ≤ (1 : Int) ∧ (Int32.toInt r25 = 0 ∨ (Int32.toInt 48 ≤ Int32.toInt r21 ∧ Int32.toInt r21 ≤ Int32.toInt 57)) := hr25
  have : (48 : Int32).toInt = 48 := (by decide)
  have : (57 : Int32).toInt = 57 := (by decide)
  refine ok_ite _ (fun c27 => ?_) (fun c27 => ?_)
  · skip
    have ic27 := i_eq c27
    have : (0 : Int32).toInt = 0 := (by decide)
    refine ok_ite _ (fun c28 => ?_) (fun c28 => ?_)
    · skip
      have ic28 := i_le c28
      have : (0 : Int32).toInt = 0 := (by decide)
      refine ok_bind (k_X8_in v23 hI_v23 r21 97 122 ) (fun r30 hr30 => ?_)
      have hr30 : (0 : Int) ≤ Int32.toInt r30 ∧ Int32.toInt r30 ≤ (1 : Int) ∧ (Int32.toInt r30 = 0 ∨ (Int32.toInt 97 ≤ Int32.toInt r21 ∧ Int32.toInt r21 ≤ Int32.toInt 122)) := hr30
      have : (97 : Int32).toInt = 97 := (by decide)
      have : (122 : Int32).toInt = 122 := (by decide)
      refine ok_ite _ (fun c32 => ?_) (fun c32 => ?_)
      · skip
        have ic32 := i_eq c32
        have : (0 : Int32).toInt = 0 := (by decide)
        refine ok_ite _ (fun c33 => ?_) (fun c33 => ?_)
        · skip
          have ic33 := i_eq c33
          have : (44 : Int32).toInt = 44 := (by decide)
          refine ok_let (fun v34 ev34 => ?_)
          have hI_v34 : IM v34 := by
            rw [ev34]
            refine hI_v23.upo (by decide) ?_
            show (0 : Int) ≤ Int32.toInt (3 : Int32) ∧ Int32.toInt (3 : Int32) ≤ (5 : Int)
            have : (3 : Int32).toInt = 3 := (by decide)
            omega
          have := i_eq (show v34 30 0 8 = v23 30 0 8 by rw [ev34]; exact up3_j (by decide))
          have := i_eq (show v34 30 0 9 = v23 30 0 9 by rw [ev34]; exact up3_j (by decide))
          have := i_eq (show v34 30 0 10 = v23 30 0 10 by rw [ev34]; exact up3_j (by decide))
          have := i_eq (show v34 30 0 11 = 3 by rw [ev34]; exact up3_s)
          have : (3 : Int32).toInt = 3 := (by decide)
          have := i_eq (show v34 30 0 12 = v23 30 0 12 by rw [ev34]; exact up3_j (by decide))
          have := i_eq (show v34 37 0 3 = v23 37 0 3 by rw [ev34]; exact up3_t (by decide))
          have := i_eq (show v34 37 0 4 = v23 37 0 4 by rw [ev34]; exact up3_t (by decide))
          have : ((v34 36 0 3).toInt = 0 ∧ (v34 36 0 4).toInt = 0) ∨ (0 < (v34 36 0 3).toInt ∧ 0 < (v34 36 0 4).toInt) := hI_v34.2.1
          refine ok_ite _ (fun c35 => ?_) (fun c35 => ?_)
          · skip
            have ic35 := i_eq c35
            have : (0 : Int) ≤ (v34 30 0 11).toInt ∧ (v34 30 0 11).toInt ≤ (5 : Int) := hI_v34.1 30 0 11
            have : (0 : Int32).toInt = 0 := (by decide)
            refine ok_let (fun v36 ev36 => ?_)
            have hI_v36 : IM v36 := by
              rw [ev36]
              refine hI_v34.upo (by decide) ?_
              show (0 : Int) ≤ Int32.toInt ((v34 30 0 9) + 0) ∧ Int32.toInt ((v34 30 0 9) + 0) ≤ (100 : Int)
              have : (0 : Int) ≤ (v34 30 0 9).toInt ∧ (v34 30 0 9).toInt ≤ (100 : Int) := hI_v34.1 30 0 9
              have : (0 : Int32).toInt = 0 := (by decide)
              have := i_bd (v34 30 0 9)
              (first | have := sp_addx (v34 30 0 9) (0 : Int32) (by omega) | obtain ⟨k12, hk12⟩ := sp_add (v34 30 0 9) (0 : Int32))
              omega
            have := i_eq (show v36 30 0 8 = v34 30 0 8 by rw [ev36]; exact up3_j (by decide))
            have := i_eq (show v36 30 0 9 = ((v34 30 0 9) + 0) by rw [ev36]; exact up3_s)
            have : (0 : Int) ≤ (v34 30 0 9).toInt ∧ (v34 30 0 9).toInt ≤ (100 : Int) := hI_v34.1 30 0 9
            have : (0 : Int32).toInt = 0 := (by decide)
            have := i_bd (v34 30 0 9)
            (first | have := sp_addx (v34 30 0 9) (0 : Int32) (by omega) | obtain ⟨k13, hk13⟩ := sp_add (v34 30 0 9) (0 : Int32))
            have := i_eq (show v36 30 0 10 = v34 30 0 10 by rw [ev36]; exact up3_j (by decide))
            have := i_eq (show v36 30 0 11 = v34 30 0 11 by rw [ev36]; exact up3_j (by decide))
            have := i_eq (show v36 30 0 12 = v34 30 0 12 by rw [ev36]; exact up3_j (by decide))
            have := i_eq (show v36 37 0 3 = v34 37 0 3 by rw [ev36]; exact up3_t (by decide))
            have := i_eq (show v36 37 0 4 = v34 37 0 4 by rw [ev36]; exact up3_t (by decide))
            have : ((v36 36 0 3).toInt = 0 ∧ (v36 36 0 4).toInt = 0) ∨ (0 < (v36 36 0 3).toInt ∧ 0 < (v36 36 0 4).toInt) := hI_v36.2.1
            refine ok_some ?_
            show IM v36 ∧ (Int32.toInt (v36 37 0 3) = Int32.toInt (v 37 0 3)) ∧ (Int32.toInt (v36 37 0 4) = Int32.toInt (v 37 0 4)) ∧ (Int32.toInt (v36 30 0 8) = Int32.toInt (v 30 0 8))
            refine ⟨hI_v36, ?_⟩
            omega
          · skip
            have ic35 := i_ne c35
            have : (0 : Int) ≤ (v34 30 0 11).toInt ∧ (v34 30 0 11).toInt ≤ (5 : Int) := hI_v34.1 30 0 11
            have : (0 : Int32).toInt = 0 := (by decide)
            refine ok_let (fun v37 ev37 => ?_)
            have hI_v37 : IM v37 := by
              rw [ev37]
              refine hI_v34.upo (by decide) ?_
              show (0 : Int) ≤ Int32.toInt ((v34 30 0 9) + 1) ∧ Int32.toInt ((v34 30 0 9) + 1) ≤ (100 : Int)
              have : (0 : Int) ≤ (v34 30 0 9).toInt ∧ (v34 30 0 9).toInt ≤ (100 : Int) := hI_v34.1 30 0 9
              have : (1 : Int32).toInt = 1 := (by decide)
              have := i_bd (v34 30 0 9)
              (first | have := sp_addx (v34 30 0 9) (1 : Int32) (by omega) | obtain ⟨k14, hk14⟩ := sp_add (v34 30 0 9) (1 : Int32))
              omega
            have := i_eq (show v37 30 0 8 = v34 30 0 8 by rw [ev37]; exact up3_j (by decide))
            have := i_eq (show v37 30 0 9 = ((v34 30 0 9) + 1) by rw [ev37]; exact up3_s)
            have : (0 : Int) ≤ (v34 30 0 9).toInt ∧ (v34 30 0 9).toInt ≤ (100 : Int) := hI_v34.1 30 0 9
            have : (1 : Int32).toInt = 1 := (by decide)
            have := i_bd (v34 30 0 9)
            (first | have := sp_addx (v34 30 0 9) (1 : Int32) (by omega) | obtain ⟨k15, hk15⟩ := sp_add (v34 30 0 9) (1 : Int32))
            have := i_eq (show v37 30 0 10 = v34 30 0 10 by rw [ev37]; exact up3_j (by decide))
            have := i_eq (show v37 30 0 11 = v34 30 0 11 by rw [ev37]; exact up3_j (by decide))
            have := i_eq (show v37 30 0 12 = v34 30 0 12 by rw [ev37]; exact up3_j (by decide))
            have := i_eq (show v37 37 0 3 = v34 37 0 3 by rw [ev37]; exact up3_t (by decide))
            have := i_eq (show v37 37 0 4 = v34 37 0 4 by rw [ev37]; exact up3_t (by decide))
            have : ((v37 36 0 3).toInt = 0 ∧ (v37 36 0 4).toInt = 0) ∨ (0 < (v37 36 0 3).toInt ∧ 0 < (v37 36 0 4).toInt) := hI_v37.2.1
            refine ok_some ?_
            show IM v37 ∧ (Int32.toInt (v37 37 0 3) = Int32.toInt (v 37 0 3)) ∧ (Int32.toInt (v37 37 0 4) = Int32.toInt (v 37 0 4)) ∧ (Int32.toInt (v37 30 0 8) = Int32.toInt (v 30 0 8))
            refine ⟨hI_v37, ?_⟩
            omega
        · skip
          have ic33 := i_ne c33
          have : (44 : Int32).toInt = 44 := (by decide)
          refine ok_ite _ (fun c38 => ?_) (fun c38 => ?_)
          · skip
            have ic38 := i_eq c38
            have : (59 : Int32).toInt = 59 := (by decide)
            refine ok_let (fun v39 ev39 => ?_)
            have hI_v39 : IM v39 := by
              rw [ev39]
              refine hI_v23.upo (by decide) ?_
              show (0 : Int) ≤ Int32.toInt (4 : Int32) ∧ Int32.toInt (4 : Int32) ≤ (5 : Int)
              have : (4 : Int32).toInt = 4 := (by decide)
              omega
            have := i_eq (show v39 30 0 8 = v23 30 0 8 by rw [ev39]; exact up3_j (by decide))
            have := i_eq (show v39 30 0 9 = v23 30 0 9 by rw [ev39]; exact up3_j (by decide))
            have := i_eq (show v39 30 0 10 = v23 30 0 10 by rw [ev39]; exact up3_j (by decide))
            have := i_eq (show v39 30 0 11 = 4 by rw [ev39]; exact up3_s)
            have : (4 : Int32).toInt = 4 := (by decide)
            have := i_eq (show v39 30 0 12 = v23 30 0 12 by rw [ev39]; exact up3_j (by decide))
            have := i_eq (show v39 37 0 3 = v23 37 0 3 by rw [ev39]; exact up3_t (by decide))
            have := i_eq (show v39 37 0 4 = v23 37 0 4 by rw [ev39]; exact up3_t (by decide))
            have : ((v39 36 0 3).toInt = 0 ∧ (v39 36 0 4).toInt = 0) ∨ (0 < (v39 36 0 3).toInt ∧ 0 < (v39 36 0 4).toInt) := hI_v39.2.1
            refine ok_ite _ (fun c40 => ?_) (fun c40 => ?_)
            · skip
              have ic40 := i_eq c40
              have : (0 : Int) ≤ (v39 30 0 11).toInt ∧ (v39 30 0 11).toInt ≤ (5 : Int) := hI_v39.1 30 0 11
              have : (0 : Int32).toInt = 0 := (by decide)
              refine ok_let (fun v41 ev41 => ?_)
              have hI_v41 : IM v41 := by
                rw [ev41]
                refine hI_v39.upo (by decide) ?_
                show (0 : Int) ≤ Int32.toInt ((v39 30 0 9) + 0) ∧ Int32.toInt ((v39 30 0 9) + 0) ≤ (100 : Int)
                have : (0 : Int) ≤ (v39 30 0 9).toInt ∧ (v39 30 0 9).toInt ≤ (100 : Int) := hI_v39.1 30 0 9
                have : (0 : Int32).toInt = 0 := (by decide)
                have := i_bd (v39 30 0 9)
                (first | have := sp_addx (v39 30 0 9) (0 : Int32) (by omega) | obtain ⟨k16, hk16⟩ := sp_add (v39 30 0 9) (0 : Int32))
                omega
              have := i_eq (show v41 30 0 8 = v39 30 0 8 by rw [ev41]; exact up3_j (by decide))
              have := i_eq (show v41 30 0 9 = ((v39 30 0 9) + 0) by rw [ev41]; exact up3_s)
              have : (0 : Int) ≤ (v39 30 0 9).toInt ∧ (v39 30 0 9).toInt ≤ (100 : Int) := hI_v39.1 30 0 9
              have : (0 : Int32).toInt = 0 := (by decide)
              have := i_bd (v39 30 0 9)
              (first | have := sp_addx (v39 30 0 9) (0 : Int32) (by omega) | obtain ⟨k17, hk17⟩ := sp_add (v39 30 0 9) (0 : Int32))
              have := i_eq (show v41 30 0 10 = v39 30 0 10 by rw [ev41]; exact up3_j (by decide))
              have := i_eq (show v41 30 0 11 = v39 30 0 11 by rw [ev41]; exact up3_j (by decide))
              have := i_eq (show v41 30 0 12 = v39 30 0 12 by rw [ev41]; exact up3_j (by decide))
              have := i_eq (show v41 37 0 3 = v39 37 0 3 by rw [ev41]; exact up3_t (by decide))
              have := i_eq (show v41 37 0 4 = v39 37 0 4 by rw [ev41]; exact up3_t (by decide))
              have : ((v41 36 0 3).toInt = 0 ∧ (v41 36 0 4).toInt = 0) ∨ (0 < (v41 36 0 3).toInt ∧ 0 < (v41 36 0 4).toInt) := hI_v41.2.1
              refine ok_some ?_
              show IM v41 ∧ (Int32.toInt (v41 37 0 3) = Int32.toInt (v 37 0 3)) ∧ (Int32.toInt (v41 37 0 4) = Int32.toInt (v 37 0 4)) ∧ (Int32.toInt (v41 30 0 8) = Int32.toInt (v 30 0 8))
              refine ⟨hI_v41, ?_⟩
              omega
            · skip
              have ic40 := i_ne c40
              have : (0 : Int) ≤ (v39 30 0 11).toInt ∧ (v39 30 0 11).toInt ≤ (5 : Int) := hI_v39.1 30 0 11
              have : (0 : Int32).toInt = 0 := (by decide)
              refine ok_let (fun v42 ev42 => ?_)
              have hI_v42 : IM v42 := by
                rw [ev42]
                refine hI_v39.upo (by decide) ?_
                show (0 : Int) ≤ Int32.toInt ((v39 30 0 9) + 1) ∧ Int32.toInt ((v39 30 0 9) + 1) ≤ (100 : Int)
                have : (0 : Int) ≤ (v39 30 0 9).toInt ∧ (v39 30 0 9).toInt ≤ (100 : Int) := hI_v39.1 30 0 9
                have : (1 : Int32).toInt = 1 := (by decide)
                have := i_bd (v39 30 0 9)
                (first | have := sp_addx (v39 30 0 9) (1 : Int32) (by omega) | obtain ⟨k18, hk18⟩ := sp_add (v39 30 0 9) (1 : Int32))
                omega
              have := i_eq (show v42 30 0 8 = v39 30 0 8 by rw [ev42]; exact up3_j (by decide))
              have := i_eq (show v42 30 0 9 = ((v39 30 0 9) + 1) by rw [ev42]; exact up3_s)
              have : (0 : Int) ≤ (v39 30 0 9).toInt ∧ (v39 30 0 9).toInt ≤ (100 : Int) := hI_v39.1 30 0 9
              have : (1 : Int32).toInt = 1 := (by decide)
              have := i_bd (v39 30 0 9)
              (first | have := sp_addx (v39 30 0 9) (1 : Int32) (by omega) | obtain ⟨k19, hk19⟩ := sp_add (v39 30 0 9) (1 : Int32))
              have := i_eq (show v42 30 0 10 = v39 30 0 10 by rw [ev42]; exact up3_j (by decide))
              have := i_eq (show v42 30 0 11 = v39 30 0 11 by rw [ev42]; exact up3_j (by decide))
              have := i_eq (show v42 30 0 12 = v39 30 0 12 by rw [ev42]; exact up3_j (by decide))
              have := i_eq (show v42 37 0 3 = v39 37 0 3 by rw [ev42]; exact up3_t (by decide))
              have := i_eq (show v42 37 0 4 = v39 37 0 4 by rw [ev42]; exact up3_t (by decide))
              have : ((v42 36 0 3).toInt = 0 ∧ (v42 36 0 4).toInt = 0) ∨ (0 < (v42 36 0 3).toInt ∧ 0 < (v42 36 0 4).toInt) := hI_v42.2.1
              refine ok_some ?_
              show IM v42 ∧ (Int32.toInt (v42 37 0 3) = Int32.toInt (v 37 0 3)) ∧ (Int32.toInt (v42 37 0 4) = Int32.toInt (v 37 0 4)) ∧ (Int32.toInt (v42 30 0 8) = Int32.toInt (v 30 0 8))
              refine ⟨hI_v42, ?_⟩
              omega
          · skip
            have ic38 := i_ne c38
            have : (59 : Int32).toInt = 59 := (by decide)
            refine ok_let (fun v43 ev43 => ?_)
            have hI_v43 : IM v43 := by
              rw [ev43]
              refine hI_v23.upo (by decide) ?_
              show (0 : Int) ≤ Int32.toInt (5 : Int32) ∧ Int32.toInt (5 : Int32) ≤ (5 : Int)
              have : (5 : Int32).toInt = 5 := (by decide)
              omega
            have := i_eq (show v43 30 0 8 = v23 30 0 8 by rw [ev43]; exact up3_j (by decide))
            have := i_eq (show v43 30 0 9 = v23 30 0 9 by rw [ev43]; exact up3_j (by decide))
            have := i_eq (show v43 30 0 10 = v23 30 0 10 by rw [ev43]; exact up3_j (by decide))
            have := i_eq (show v43 30 0 11 = 5 by rw [ev43]; exact up3_s)
            have : (5 : Int32).toInt = 5 := (by decide)
            have := i_eq (show v43 30 0 12 = v23 30 0 12 by rw [ev43]; exact up3_j (by decide))
            have := i_eq (show v43 37 0 3 = v23 37 0 3 by rw [ev43]; exact up3_t (by decide))
            have := i_eq (show v43 37 0 4 = v23 37 0 4 by rw [ev43]; exact up3_t (by decide))
            have : ((v43 36 0 3).toInt = 0 ∧ (v43 36 0 4).toInt = 0) ∨ (0 < (v43 36 0 3).toInt ∧ 0 < (v43 36 0 4).toInt) := hI_v43.2.1
            refine ok_ite _ (fun c44 => ?_) (fun c44 => ?_)
            · skip
              have ic44 := i_eq c44
              have : (0 : Int) ≤ (v43 30 0 11).toInt ∧ (v43 30 0 11).toInt ≤ (5 : Int) := hI_v43.1 30 0 11
              have : (0 : Int32).toInt = 0 := (by decide)
              refine ok_let (fun v45 ev45 => ?_)
              have hI_v45 : IM v45 := by
                rw [ev45]
                refine hI_v43.upo (by decide) ?_
                show (0 : Int) ≤ Int32.toInt ((v43 30 0 9) + 0) ∧ Int32.toInt ((v43 30 0 9) + 0) ≤ (100 : Int)
                have : (0 : Int) ≤ (v43 30 0 9).toInt ∧ (v43 30 0 9).toInt ≤ (100 : Int) := hI_v43.1 30 0 9
                have : (0 : Int32).toInt = 0 := (by decide)
                have := i_bd (v43 30 0 9)
                (first | have := sp_addx (v43 30 0 9) (0 : Int32) (by omega) | obtain ⟨k20, hk20⟩ := sp_add (v43 30 0 9) (0 : Int32))
                omega
              have := i_eq (show v45 30 0 8 = v43 30 0 8 by rw [ev45]; exact up3_j (by decide))
              have := i_eq (show v45 30 0 9 = ((v43 30 0 9) + 0) by rw [ev45]; exact up3_s)
              have : (0 : Int) ≤ (v43 30 0 9).toInt ∧ (v43 30 0 9).toInt ≤ (100 : Int) := hI_v43.1 30 0 9
              have : (0 : Int32).toInt = 0 := (by decide)
              have := i_bd (v43 30 0 9)
              (first | have := sp_addx (v43 30 0 9) (0 : Int32) (by omega) | obtain ⟨k21, hk21⟩ := sp_add (v43 30 0 9) (0 : Int32))
              have := i_eq (show v45 30 0 10 = v43 30 0 10 by rw [ev45]; exact up3_j (by decide))
              have := i_eq (show v45 30 0 11 = v43 30 0 11 by rw [ev45]; exact up3_j (by decide))
              have := i_eq (show v45 30 0 12 = v43 30 0 12 by rw [ev45]; exact up3_j (by decide))
              have := i_eq (show v45 37 0 3 = v43 37 0 3 by rw [ev45]; exact up3_t (by decide))
              have := i_eq (show v45 37 0 4 = v43 37 0 4 by rw [ev45]; exact up3_t (by decide))
              have : ((v45 36 0 3).toInt = 0 ∧ (v45 36 0 4).toInt = 0) ∨ (0 < (v45 36 0 3).toInt ∧ 0 < (v45 36 0 4).toInt) := hI_v45.2.1
              refine ok_some ?_
              show IM v45 ∧ (Int32.toInt (v45 37 0 3) = Int32.toInt (v 37 0 3)) ∧ (Int32.toInt (v45 37 0 4) = Int32.toInt (v 37 0 4)) ∧ (Int32.toInt (v45 30 0 8) = Int32.toInt (v 30 0 8))
              refine ⟨hI_v45, ?_⟩
              omega
            · skip
              have ic44 := i_ne c44
              have : (0 : Int) ≤ (v43 30 0 11).toInt ∧ (v43 30 0 11).toInt ≤ (5 : Int) := hI_v43.1 30 0 11
              have : (0 : Int32).toInt = 0 := (by decide)
              refine ok_let (fun v46 ev46 => ?_)
              have hI_v46 : IM v46 := by
                rw [ev46]
                refine hI_v43.upo (by decide) ?_
                show (0 : Int) ≤ Int32.toInt ((v43 30 0 9) + 1) ∧ Int32.toInt ((v43 30 0 9) + 1) ≤ (100 : Int)
                have : (0 : Int) ≤ (v43 30 0 9).toInt ∧ (v43 30 0 9).toInt ≤ (100 : Int) := hI_v43.1 30 0 9
                have : (1 : Int32).toInt = 1 := (by decide)
                have := i_bd (v43 30 0 9)
                (first | have := sp_addx (v43 30 0 9) (1 : Int32) (by omega) | obtain ⟨k22, hk22⟩ := sp_add (v43 30 0 9) (1 : Int32))
                omega
              have := i_eq (show v46 30 0 8 = v43 30 0 8 by rw [ev46]; exact up3_j (by decide))
              have := i_eq (show v46 30 0 9 = ((v43 30 0 9) + 1) by rw [ev46]; exact up3_s)
              have : (0 : Int) ≤ (v43 30 0 9).toInt ∧ (v43 30 0 9).toInt ≤ (100 : Int) := hI_v43.1 30 0 9
              have : (1 : Int32).toInt = 1 := (by decide)
              have := i_bd (v43 30 0 9)
              (first | have := sp_addx (v43 30 0 9) (1 : Int32) (by omega) | obtain ⟨k23, hk23⟩ := sp_add (v43 30 0 9) (1 : Int32))
              have := i_eq (show v46 30 0 10 = v43 30 0 10 by rw [ev46]; exact up3_j (by decide))
              have := i_eq (show v46 30 0 11 = v43 30 0 11 by rw [ev46]; exact up3_j (by decide))
              have := i_eq (show v46 30 0 12 = v43 30 0 12 by rw [ev46]; exact up3_j (by decide))
              have := i_eq (show v46 37 0 3 = v43 37 0 3 by rw [ev46]; exact up3_t (by decide))
              have := i_eq (show v46 37 0 4 = v43 37 0 4 by rw [ev46]; exact up3_t (by decide))
              have : ((v46 36 0 3).toInt = 0 ∧ (v46 36 0 4).toInt = 0) ∨ (0 < (v46 36 0 3).toInt ∧ 0 < (v46 36 0 4).toInt) := hI_v46.2.1
              refine ok_some ?_
              show IM v46 ∧ (Int32.toInt (v46 37 0 3) = Int32.toInt (v 37 0 3)) ∧ (Int32.toInt (v46 37 0 4) = Int32.toInt (v 37 0 4)) ∧ (Int32.toInt (v46 30 0 8) = Int32.toInt (v 30 0 8))
              refine ⟨hI_v46, ?_⟩
              omega
      · skip
        have ic32 := i_ne c32
        have : (0 : Int32).toInt = 0 := (by decide)
        refine ok_let (fun v47 ev47 => ?_)
        have hI_v47 : IM v47 := by
          rw [ev47]
          refine hI_v23.upo (by decide) ?_
          show (0 : Int) ≤ Int32.toInt (1 : Int32) ∧ Int32.toInt (1 : Int32) ≤ (5 : Int)
          have : (1 : Int32).toInt = 1 := (by decide)
          omega
        have := i_eq (show v47 30 0 8 = v23 30 0 8 by rw [ev47]; exact up3_j (by decide))
        have := i_eq (show v47 30 0 9 = v23 30 0 9 by rw [ev47]; exact up3_j (by decide))
        have := i_eq (show v47 30 0 10 = v23 30 0 10 by rw [ev47]; exact up3_j (by decide))
        have := i_eq (show v47 30 0 11 = 1 by rw [ev47]; exact up3_s)
        have : (1 : Int32).toInt = 1 := (by decide)
        have := i_eq (show v47 30 0 12 = v23 30 0 12 by rw [ev47]; exact up3_j (by decide))
        have := i_eq (show v47 37 0 3 = v23 37 0 3 by rw [ev47]; exact up3_t (by decide))
        have := i_eq (show v47 37 0 4 = v23 37 0 4 by rw [ev47]; exact up3_t (by decide))
        have : ((v47 36 0 3).toInt = 0 ∧ (v47 36 0 4).toInt = 0) ∨ (0 < (v47 36 0 3).toInt ∧ 0 < (v47 36 0 4).toInt) := hI_v47.2.1
        refine ok_ite _ (fun c48 => ?_) (fun c48 => ?_)
        · skip
          have ic48 := i_eq c48
          have : (0 : Int) ≤ (v47 30 0 11).toInt ∧ (v47 30 0 11).toInt ≤ (5 : Int) := hI_v47.1 30 0 11
          have : (0 : Int32).toInt = 0 := (by decide)
          refine ok_let (fun v49 ev49 => ?_)
          have hI_v49 : IM v49 := by
            rw [ev49]
            refine hI_v47.upo (by decide) ?_
            show (0 : Int) ≤ Int32.toInt ((v47 30 0 9) + 0) ∧ Int32.toInt ((v47 30 0 9) + 0) ≤ (100 : Int)
            have : (0 : Int) ≤ (v47 30 0 9).toInt ∧ (v47 30 0 9).toInt ≤ (100 : Int) := hI_v47.1 30 0 9
            have : (0 : Int32).toInt = 0 := (by decide)
            have := i_bd (v47 30 0 9)
            (first | have := sp_addx (v47 30 0 9) (0 : Int32) (by omega) | obtain ⟨k24, hk24⟩ := sp_add (v47 30 0 9) (0 : Int32))
            omega
          have := i_eq (show v49 30 0 8 = v47 30 0 8 by rw [ev49]; exact up3_j (by decide))
          have := i_eq (show v49 30 0 9 = ((v47 30 0 9) + 0) by rw [ev49]; exact up3_s)
          have : (0 : Int) ≤ (v47 30 0 9).toInt ∧ (v47 30 0 9).toInt ≤ (100 : Int) := hI_v47.1 30 0 9
          have : (0 : Int32).toInt = 0 := (by decide)
          have := i_bd (v47 30 0 9)
          (first | have := sp_addx (v47 30 0 9) (0 : Int32) (by omega) | obtain ⟨k25, hk25⟩ := sp_add (v47 30 0 9) (0 : Int32))
          have := i_eq (show v49 30 0 10 = v47 30 0 10 by rw [ev49]; exact up3_j (by decide))
          have := i_eq (show v49 30 0 11 = v47 30 0 11 by rw [ev49]; exact up3_j (by decide))
          have := i_eq (show v49 30 0 12 = v47 30 0 12 by rw [ev49]; exact up3_j (by decide))
          have := i_eq (show v49 37 0 3 = v47 37 0 3 by rw [ev49]; exact up3_t (by decide))
          have := i_eq (show v49 37 0 4 = v47 37 0 4 by rw [ev49]; exact up3_t (by decide))
          have : ((v49 36 0 3).toInt = 0 ∧ (v49 36 0 4).toInt = 0) ∨ (0 < (v49 36 0 3).toInt ∧ 0 < (v49 36 0 4).toInt) := hI_v49.2.1
          refine ok_some ?_
          show IM v49 ∧ (Int32.toInt (v49 37 0 3) = Int32.toInt (v 37 0 3)) ∧ (Int32.toInt (v49 37 0 4) = Int32.toInt (v 37 0 4)) ∧ (Int32.toInt (v49 30 0 8) = Int32.toInt (v 30 0 8))
          refine ⟨hI_v49, ?_⟩
          omega
        · skip
          have ic48 := i_ne c48
          have : (0 : Int) ≤ (v47 30 0 11).toInt ∧ (v47 30 0 11).toInt ≤ (5 : Int) := hI_v47.1 30 0 11
          have : (0 : Int32).toInt = 0 := (by decide)
          refine ok_let (fun v50 ev50 => ?_)
          have hI_v50 : IM v50 := by
            rw [ev50]
            refine hI_v47.upo (by decide) ?_
            show (0 : Int) ≤ Int32.toInt ((v47 30 0 9) + 1) ∧ Int32.toInt ((v47 30 0 9) + 1) ≤ (100 : Int)
            have : (0 : Int) ≤ (v47 30 0 9).toInt ∧ (v47 30 0 9).toInt ≤ (100 : Int) := hI_v47.1 30 0 9
            have : (1 : Int32).toInt = 1 := (by decide)
            have := i_bd (v47 30 0 9)
            (first | have := sp_addx (v47 30 0 9) (1 : Int32) (by omega) | obtain ⟨k26, hk26⟩ := sp_add (v47 30 0 9) (1 : Int32))
            omega
          have := i_eq (show v50 30 0 8 = v47 30 0 8 by rw [ev50]; exact up3_j (by decide))
          have := i_eq (show v50 30 0 9 = ((v47 30 0 9) + 1) by rw [ev50]; exact up3_s)
          have : (0 : Int) ≤ (v47 30 0 9).toInt ∧ (v47 30 0 9).toInt ≤ (100 : Int) := hI_v47.1 30 0 9
          have : (1 : Int32).toInt = 1 := (by decide)
          have := i_bd (v47 30 0 9)
          (first | have := sp_addx (v47 30 0 9) (1 : Int32) (by omega) | obtain ⟨k27, hk27⟩ := sp_add (v47 30 0 9) (1 : Int32))
          have := i_eq (show v50 30 0 10 = v47 30 0 10 by rw [ev50]; exact up3_j (by decide))
          have := i_eq (show v50 30 0 11 = v47 30 0 11 by rw [ev50]; exact up3_j (by decide))
          have := i_eq (show v50 30 0 12 = v47 30 0 12 by rw [ev50]; exact up3_j (by decide))
          have := i_eq (show v50 37 0 3 = v47 37 0 3 by rw [ev50]; exact up3_t (by decide))
          have := i_eq (show v50 37 0 4 = v47 37 0 4 by rw [ev50]; exact up3_t (by decide))
          have : ((v50 36 0 3).toInt = 0 ∧ (v50 36 0 4).toInt = 0) ∨ (0 < (v50 36 0 3).toInt ∧ 0 < (v50 36 0 4).toInt) := hI_v50.2.1
          refine ok_some ?_
          show IM v50 ∧ (Int32.toInt (v50 37 0 3) = Int32.toInt (v 37 0 3)) ∧ (Int32.toInt (v50 37 0 4) = Int32.toInt (v 37 0 4)) ∧ (Int32.toInt (v50 30 0 8) = Int32.toInt (v 30 0 8))
          refine ⟨hI_v50, ?_⟩
          omega
    · skip
      have ic28 := i_nle c28
      have : (0 : Int32).toInt = 0 := (by decide)
      refine ok_let (fun v51 ev51 => ?_)
      have hI_v51 : IM v51 := by
        rw [ev51]
        refine hI_v23.upo (by decide) ?_
        show (0 : Int) ≤ Int32.toInt (0 : Int32) ∧ Int32.toInt (0 : Int32) ≤ (5 : Int)
        have : (0 : Int32).toInt = 0 := (by decide)
        omega
      have := i_eq (show v51 30 0 8 = v23 30 0 8 by rw [ev51]; exact up3_j (by decide))
      have := i_eq (show v51 30 0 9 = v23 30 0 9 by rw [ev51]; exact up3_j (by decide))
      have := i_eq (show v51 30 0 10 = v23 30 0 10 by rw [ev51]; exact up3_j (by decide))
      have := i_eq (show v51 30 0 11 = 0 by rw [ev51]; exact up3_s)
      have : (0 : Int32).toInt = 0 := (by decide)
      have := i_eq (show v51 30 0 12 = v23 30 0 12 by rw [ev51]; exact up3_j (by decide))
      have := i_eq (show v51 37 0 3 = v23 37 0 3 by rw [ev51]; exact up3_t (by decide))
      have := i_eq (show v51 37 0 4 = v23 37 0 4 by rw [ev51]; exact up3_t (by decide))
      have : ((v51 36 0 3).toInt = 0 ∧ (v51 36 0 4).toInt = 0) ∨ (0 < (v51 36 0 3).toInt ∧ 0 < (v51 36 0 4).toInt) := hI_v51.2.1
      refine ok_ite _ (fun c52 => ?_) (fun c52 => ?_)
      · skip
        have ic52 := i_eq c52
        have : (0 : Int) ≤ (v51 30 0 11).toInt ∧ (v51 30 0 11).toInt ≤ (5 : Int) := hI_v51.1 30 0 11
        have : (0 : Int32).toInt = 0 := (by decide)
        refine ok_let (fun v53 ev53 => ?_)
        have hI_v53 : IM v53 := by
          rw [ev53]
          refine hI_v51.upo (by decide) ?_
          show (0 : Int) ≤ Int32.toInt ((v51 30 0 9) + 0) ∧ Int32.toInt ((v51 30 0 9) + 0) ≤ (100 : Int)
          have : (0 : Int) ≤ (v51 30 0 9).toInt ∧ (v51 30 0 9).toInt ≤ (100 : Int) := hI_v51.1 30 0 9
          have : (0 : Int32).toInt = 0 := (by decide)
          have := i_bd (v51 30 0 9)
          (first | have := sp_addx (v51 30 0 9) (0 : Int32) (by omega) | obtain ⟨k28, hk28⟩ := sp_add (v51 30 0 9) (0 : Int32))
          omega
        have := i_eq (show v53 30 0 8 = v51 30 0 8 by rw [ev53]; exact up3_j (by decide))
        have := i_eq (show v53 30 0 9 = ((v51 30 0 9) + 0) by rw [ev53]; exact up3_s)
        have : (0 : Int) ≤ (v51 30 0 9).toInt ∧ (v51 30 0 9).toInt ≤ (100 : Int) := hI_v51.1 30 0 9
        have : (0 : Int32).toInt = 0 := (by decide)
        have := i_bd (v51 30 0 9)
        (first | have := sp_addx (v51 30 0 9) (0 : Int32) (by omega) | obtain ⟨k29, hk29⟩ := sp_add (v51 30 0 9) (0 : Int32))
        have := i_eq (show v53 30 0 10 = v51 30 0 10 by rw [ev53]; exact up3_j (by decide))
        have := i_eq (show v53 30 0 11 = v51 30 0 11 by rw [ev53]; exact up3_j (by decide))
        have := i_eq (show v53 30 0 12 = v51 30 0 12 by rw [ev53]; exact up3_j (by decide))
        have := i_eq (show v53 37 0 3 = v51 37 0 3 by rw [ev53]; exact up3_t (by decide))
        have := i_eq (show v53 37 0 4 = v51 37 0 4 by rw [ev53]; exact up3_t (by decide))
        have : ((v53 36 0 3).toInt = 0 ∧ (v53 36 0 4).toInt = 0) ∨ (0 < (v53 36 0 3).toInt ∧ 0 < (v53 36 0 4).toInt) := hI_v53.2.1
        refine ok_some ?_
        show IM v53 ∧ (Int32.toInt (v53 37 0 3) = Int32.toInt (v 37 0 3)) ∧ (Int32.toInt (v53 37 0 4) = Int32.toInt (v 37 0 4)) ∧ (Int32.toInt (v53 30 0 8) = Int32.toInt (v 30 0 8))
        refine ⟨hI_v53, ?_⟩
        omega
      · skip
        have ic52 := i_ne c52
        have : (0 : Int) ≤ (v51 30 0 11).toInt ∧ (v51 30 0 11).toInt ≤ (5 : Int) := hI_v51.1 30 0 11
        have : (0 : Int32).toInt = 0 := (by decide)
        refine ok_let (fun v54 ev54 => ?_)
        have hI_v54 : IM v54 := by
          rw [ev54]
          refine hI_v51.upo (by decide) ?_
          show (0 : Int) ≤ Int32.toInt ((v51 30 0 9) + 1) ∧ Int32.toInt ((v51 30 0 9) + 1) ≤ (100 : Int)
          have : (0 : Int) ≤ (v51 30 0 9).toInt ∧ (v51 30 0 9).toInt ≤ (100 : Int) := hI_v51.1 30 0 9
          have : (1 : Int32).toInt = 1 := (by decide)
          have := i_bd (v51 30 0 9)
          (first | have := sp_addx (v51 30 0 9) (1 : Int32) (by omega) | obtain ⟨k30, hk30⟩ := sp_add (v51 30 0 9) (1 : Int32))
          omega
        have := i_eq (show v54 30 0 8 = v51 30 0 8 by rw [ev54]; exact up3_j (by decide))
        have := i_eq (show v54 30 0 9 = ((v51 30 0 9) + 1) by rw [ev54]; exact up3_s)
        have : (0 : Int) ≤ (v51 30 0 9).toInt ∧ (v51 30 0 9).toInt ≤ (100 : Int) := hI_v51.1 30 0 9
        have : (1 : Int32).toInt = 1 := (by decide)
        have := i_bd (v51 30 0 9)
        (first | have := sp_addx (v51 30 0 9) (1 : Int32) (by omega) | obtain ⟨k31, hk31⟩ := sp_add (v51 30 0 9) (1 : Int32))
        have := i_eq (show v54 30 0 10 = v51 30 0 10 by rw [ev54]; exact up3_j (by decide))
        have := i_eq (show v54 30 0 11 = v51 30 0 11 by rw [ev54]; exact up3_j (by decide))
        have := i_eq (show v54 30 0 12 = v51 30 0 12 by rw [ev54]; exact up3_j (by decide))
        have := i_eq (show v54 37 0 3 = v51 37 0 3 by rw [ev54]; exact up3_t (by decide))
        have := i_eq (show v54 37 0 4 = v51 37 0 4 by rw [ev54]; exact up3_t (by decide))
        have : ((v54 36 0 3).toInt = 0 ∧ (v54 36 0 4).toInt = 0) ∨ (0 < (v54 36 0 3).toInt ∧ 0 < (v54 36 0 4).toInt) := hI_v54.2.1
        refine ok_some ?_
        show IM v54 ∧ (Int32.toInt (v54 37 0 3) = Int32.toInt (v 37 0 3)) ∧ (Int32.toInt (v54 37 0 4) = Int32.toInt (v 37 0 4)) ∧ (Int32.toInt (v54 30 0 8) = Int32.toInt (v 30 0 8))
        refine ⟨hI_v54, ?_⟩
        omega
  · skip
    have ic27 := i_ne c27
    have : (0 : Int32).toInt = 0 := (by decide)
    refine ok_let (fun v55 ev55 => ?_)
    have hI_v55 : IM v55 := by rw [ev55]; exact hI_v23.upo (by decide) (by have h9 := i_bd (0 : Int32); exact ⟨h9.1, Int.le_of_lt_add_one h9.2⟩)
    have := i_eq (show v55 30 0 8 = v23 30 0 8 by rw [ev55]; exact up3_j (by decide))
    have := i_eq (show v55 30 0 9 = v23 30 0 9 by rw [ev55]; exact up3_j (by decide))
    have := i_eq (show v55 30 0 10 = v23 30 0 10 by rw [ev55]; exact up3_j (by decide))
    have := i_eq (show v55 30 0 11 = v23 30 0 11 by rw [ev55]; exact up3_j (by decide))
    have := i_eq (show v55 30 0 12 = 0 by rw [ev55]; exact up3_s)
    have : (0 : Int32).toInt = 0 := (by decide)
    have := i_eq (show v55 37 0 3 = v23 37 0 3 by rw [ev55]; exact up3_t (by decide))
    have := i_eq (show v55 37 0 4 = v23 37 0 4 by rw [ev55]; exact up3_t (by decide))
    have : ((v55 36 0 3).toInt = 0 ∧ (v55 36 0 4).toInt = 0) ∨ (0 < (v55 36 0 3).toInt ∧ 0 < (v55 36 0 4).toInt) := hI_v55.2.1
    exact loop38 2000 v55 r21 hI_v55 (by omega) (by omega) (by omega) (by omega)
set_option maxHeartbeats 4000000 in
theorem k_X8_isWell (v : Mm) (hI_v : IM v)  : ok (g_X8_isWell v ) (fun z => (0 : Int) ≤ Int32.toInt z ∧ Int32.toInt z ≤ (1 : Int) ∧ ((Int32.toInt z = 0 ∧ 0 ≤ Int32.toInt (v 30 0 8)) ∨ (Int32.toInt z = 1 ∧ Int32.toInt (v 30 0 8) < 0))) := by
  have : ((v 36 0 3).toInt = 0 ∧ (v 36 0 4).toInt = 0) ∨ (0 < (v 36 0 3).toInt ∧ 0 < (v 36 0 4).toInt) := hI_v.2.1
  unfold g_X8_isWell
  refine ok_ite _ (fun c1 => ?_) (fun c1 => ?_)
  · skip
    have ic1 := i_le c1
    have : (-1 : Int) ≤ (v 30 0 8).toInt ∧ (v 30 0 8).toInt ≤ (100 : Int) := hI_v.1 30 0 8
    have : (0 : Int32).toInt = 0 := (by decide)
    refine ok_some ?_
    show (0 : Int) ≤ Int32.toInt (0 : Int32) ∧ Int32.toInt (0 : Int32) ≤ (1 : Int) ∧ ((Int32.toInt (0 : Int32) = 0 ∧ 0 ≤ Int32.toInt (v 30 0 8)) ∨ (Int32.toInt (0 : Int32) = 1 ∧ Int32.toInt (v 30 0 8) < 0))
    have : (0 : Int32).toInt = 0 := (by decide)
    omega
  · skip
    have ic1 := i_nle c1
    have : (-1 : Int) ≤ (v 30 0 8).toInt ∧ (v 30 0 8).toInt ≤ (100 : Int) := hI_v.1 30 0 8
    have : (0 : Int32).toInt = 0 := (by decide)
    refine ok_some ?_
    show (0 : Int) ≤ Int32.toInt (1 : Int32) ∧ Int32.toInt (1 : Int32) ≤ (1 : Int) ∧ ((Int32.toInt (1 : Int32) = 0 ∧ 0 ≤ Int32.toInt (v 30 0 8)) ∨ (Int32.toInt (1 : Int32) = 1 ∧ Int32.toInt (v 30 0 8) < 0))
    have : (1 : Int32).toInt = 1 := (by decide)
    omega
set_option maxHeartbeats 4000000 in
theorem k_X8_takes (v : Mm) (hI_v : IM v) (a1 : Int32) (a2 : Int32) : ok (g_X8_takes v a1 a2) (fun z => IM z.2 ∧ (Int32.toInt (z.2 37 0 3) = Int32.toInt (v 37 0 3)) ∧ (Int32.toInt (z.2 37 0 4) = Int32.toInt (v 37 0 4)) ∧ (Int32.toInt (v 30 0 8) < 0 ∨ 0 ≤ Int32.toInt (z.2 30 0 8)) ∧ (¬ Int32.toInt a1 = 0 ∨ 0 ≤ Int32.toInt (z.2 30 0 8)) ∧ (Int32.toInt (z.1) = 0 ∨ (Int32.toInt (z.1) = Int32.toInt (v 30 0 12) ∧ ¬ Int32.toInt a1 = 0))) := by
  have : ((v 36 0 3).toInt = 0 ∧ (v 36 0 4).toInt = 0) ∨ (0 < (v 36 0 3).toInt ∧ 0 < (v 36 0 4).toInt) := hI_v.2.1
  unfold g_X8_takes
  refine ok_bind (k_X8_isWell v hI_v  ) (fun r2 hr2 => ?_)
  have hr2 : (0 : Int) ≤ Int32.toInt r2 ∧ Int32.toInt r2 ≤ (1 : Int) ∧ ((Int32.toInt r2 = 0 ∧ 0 ≤ Int32.toInt (v 30 0 8)) ∨ (Int32.toInt r2 = 1 ∧ Int32.toInt (v 30 0 8) < 0)) := hr2
  have : (-1 : Int) ≤ (v 30 0 8).toInt ∧ (v 30 0 8).toInt ≤ (100 : Int) := hI_v.1 30 0 8
  refine ok_ite _ (fun c4 => ?_) (fun c4 => ?_)
  · skip
    have ic4 := i_eq c4
    have : (0 : Int32).toInt = 0 := (by decide)
    refine ok_some ?_
    show IM v ∧ (Int32.toInt (v 37 0 3) = Int32.toInt (v 37 0 3)) ∧ (Int32.toInt (v 37 0 4) = Int32.toInt (v 37 0 4)) ∧ (Int32.toInt (v 30 0 8) < 0 ∨ 0 ≤ Int32.toInt (v 30 0 8)) ∧ (¬ Int32.toInt a1 = 0 ∨ 0 ≤ Int32.toInt (v 30 0 8)) ∧ (Int32.toInt (0 : Int32) = 0 ∨ (Int32.toInt (0 : Int32) = Int32.toInt (v 30 0 12) ∧ ¬ Int32.toInt a1 = 0))
    have : (0 : Int32).toInt = 0 := (by decide)
    refine ⟨hI_v, ?_⟩
    omega
  · skip
    have ic4 := i_ne c4
    have : (0 : Int32).toInt = 0 := (by decide)
    refine ok_ite _ (fun c5 => ?_) (fun c5 => ?_)
    · skip
      have ic5 := i_eq c5
      have : (0 : Int32).toInt = 0 := (by decide)
      refine ok_let (fun v6 ev6 => ?_)
      have hI_v6 : IM v6 := by
        rw [ev6]
        refine hI_v.upo (by decide) ?_
        show (-1 : Int) ≤ Int32.toInt (v 30 0 10) ∧ Int32.toInt (v 30 0 10) ≤ (100 : Int)
        have : (0 : Int) ≤ (v 30 0 10).toInt ∧ (v 30 0 10).toInt ≤ (100 : Int) := hI_v.1 30 0 10
        omega
      have := i_eq (show v6 30 0 7 = v 30 0 7 by rw [ev6]; exact up3_j (by decide))
      have := i_eq (show v6 30 0 8 = (v 30 0 10) by rw [ev6]; exact up3_s)
      have : (0 : Int) ≤ (v 30 0 10).toInt ∧ (v 30 0 10).toInt ≤ (100 : Int) := hI_v.1 30 0 10
      have := i_eq (show v6 30 0 10 = v 30 0 10 by rw [ev6]; exact up3_j (by decide))
      have := i_eq (show v6 30 0 12 = v 30 0 12 by rw [ev6]; exact up3_j (by decide))
      have := i_eq (show v6 37 0 3 = v 37 0 3 by rw [ev6]; exact up3_t (by decide))
      have := i_eq (show v6 37 0 4 = v 37 0 4 by rw [ev6]; exact up3_t (by decide))
      have : ((v6 36 0 3).toInt = 0 ∧ (v6 36 0 4).toInt = 0) ∨ (0 < (v6 36 0 3).toInt ∧ 0 < (v6 36 0 4).toInt) := hI_v6.2.1
      refine ok_let (fun v7 ev7 => ?_)
      have hI_v7 : IM v7 := by rw [ev7]; exact hI_v6.upo (by decide) (by have h9 := i_bd a2; exact ⟨h9.1, Int.le_of_lt_add_one h9.2⟩)
      have := i_eq (show v7 30 0 7 = a2 by rw [ev7]; exact up3_s)
      have := i_eq (show v7 30 0 8 = v6 30 0 8 by rw [ev7]; exact up3_j (by decide))
      have := i_eq (show v7 30 0 10 = v6 30 0 10 by rw [ev7]; exact up3_j (by decide))
      have := i_eq (show v7 30 0 12 = v6 30 0 12 by rw [ev7]; exact up3_j (by decide))
      have := i_eq (show v7 37 0 3 = v6 37 0 3 by rw [ev7]; exact up3_t (by decide))
      have := i_eq (show v7 37 0 4 = v6 37 0 4 by rw [ev7]; exact up3_t (by decide))
      have : ((v7 36 0 3).toInt = 0 ∧ (v7 36 0 4).toInt = 0) ∨ (0 < (v7 36 0 3).toInt ∧ 0 < (v7 36 0 4).toInt) := hI_v7.2.1
      refine ok_some ?_
      show IM v7 ∧ (Int32.toInt (v7 37 0 3) = Int32.toInt (v 37 0 3)) ∧ (Int32.toInt (v7 37 0 4) = Int32.toInt (v 37 0 4)) ∧ (Int32.toInt (v 30 0 8) < 0 ∨ 0 ≤ Int32.toInt (v7 30 0 8)) ∧ (¬ Int32.toInt a1 = 0 ∨ 0 ≤ Int32.toInt (v7 30 0 8)) ∧ (Int32.toInt (0 : Int32) = 0 ∨ (Int32.toInt (0 : Int32) = Int32.toInt (v 30 0 12) ∧ ¬ Int32.toInt a1 = 0))
      have : (0 : Int32).toInt = 0 := (by decide)
      refine ⟨hI_v7, ?_⟩
      omega
    · skip
      have ic5 := i_ne c5
      have : (0 : Int32).toInt = 0 := (by decide)
      refine ok_bind (k_X8_advances v hI_v  ) (fun v10 hr9 => ?_)
      have hr9 : IM v10 ∧ (Int32.toInt (v10 37 0 3) = Int32.toInt (v 37 0 3)) ∧ (Int32.toInt (v10 37 0 4) = Int32.toInt (v 37 0 4)) ∧ (Int32.toInt (v10 30 0 8) = Int32.toInt (v 30 0 8)) := hr9
      obtain ⟨hI_v10, hr9⟩ := hr9
      have : ((v10 36 0 3).toInt = 0 ∧ (v10 36 0 4).toInt = 0) ∨ (0 < (v10 36 0 3).toInt ∧ 0 < (v10 36 0 4).toInt) := hI_v10.2.1
      have : (0 : Int) ≤ (v 37 0 3).toInt ∧ (v 37 0 3).toInt ≤ (6 : Int) := hI_v.1 37 0 3
      have : (0 : Int) ≤ (v 37 0 4).toInt ∧ (v 37 0 4).toInt ≤ (4 : Int) := hI_v.1 37 0 4
      have : (-1 : Int) ≤ (v 30 0 8).toInt ∧ (v 30 0 8).toInt ≤ (100 : Int) := hI_v.1 30 0 8
      refine ok_some ?_
      show IM v10 ∧ (Int32.toInt (v10 37 0 3) = Int32.toInt (v 37 0 3)) ∧ (Int32.toInt (v10 37 0 4) = Int32.toInt (v 37 0 4)) ∧ (Int32.toInt (v 30 0 8) < 0 ∨ 0 ≤ Int32.toInt (v10 30 0 8)) ∧ (¬ Int32.toInt a1 = 0 ∨ 0 ≤ Int32.toInt (v10 30 0 8)) ∧ (Int32.toInt (v 30 0 12) = 0 ∨ (Int32.toInt (v 30 0 12) = Int32.toInt (v 30 0 12) ∧ ¬ Int32.toInt a1 = 0))
      refine ⟨hI_v10, ?_⟩
      omega
set_option maxHeartbeats 4000000 in
theorem k_X8_figure (v : Mm) (hI_v : IM v) (a1 : Int32) (a2 : Int32) (h_a1 : (0 : Int) ≤ a1.toInt ∧ a1.toInt ≤ (0 : Int)) (h_a2 : (0 : Int) ≤ a2.toInt ∧ a2.toInt ≤ (9 : Int)) : ok (g_X8_figure v a1 a2) (fun z => IM z.2 ∧ (0 : Int) ≤ Int32.toInt (z.1) ∧ Int32.toInt (z.1) ≤ (9 : Int) ∧ (Int32.toInt (z.2 37 0 3) = Int32.toInt (v 37 0 3)) ∧ (Int32.toInt (z.2 37 0 4) = Int32.toInt (v 37 0 4)) ∧ (Int32.toInt (v 30 0 8) < 0 ∨ 0 ≤ Int32.toInt (z.2 30 0 8)) ∧ (Int32.toInt (z.1) ≤ Int32.toInt a2)) := by
  have : ((v 36 0 3).toInt = 0 ∧ (v 36 0 4).toInt = 0) ∨ (0 < (v 36 0 3).toInt ∧ 0 < (v 36 0 4).toInt) := hI_v.2.1
  unfold g_X8_figure
  refine ok_bind (k_X8_isWell v hI_v  ) (fun r2 hr2 => ?_)
  have hr2 : (0 : Int) ≤ Int32.toInt r2 ∧ Int32.toInt r2 ≤ (1 : Int) ∧ ((Int32.toInt r2 = 0 ∧ 0 ≤ Int32.toInt (v 30 0 8)) ∨ (Int32.toInt r2 = 1 ∧ Int32.toInt (v 30 0 8) < 0)) := hr2
  have : (-1 : Int) ≤ (v 30 0 8).toInt ∧ (v 30 0 8).toInt ≤ (100 : Int) := hI_v.1 30 0 8
  refine ok_ite _ (fun c4 => ?_) (fun c4 => ?_)
  · skip
    have ic4 := i_eq c4
    have : (0 : Int32).toInt = 0 := (by decide)
    refine ok_bind (k_X8_in v hI_v (v 30 0 12) a1 a2 ) (fun r6 hr6 => ?_)
    have hr6 : (0 : Int) ≤ Int32.toInt r6 ∧ Int32.toInt r6 ≤ (1 : Int) ∧ (Int32.toInt r6 = 0 ∨ (Int32.toInt a1 ≤ Int32.toInt (v 30 0 12) ∧ Int32.toInt (v 30 0 12) ≤ Int32.toInt a2)) := hr6
    refine ok_kb2 (k_X8_takes v hI_v r6 2 ) (fun r9 v10 hr9 => ?_)
    have hr9 : IM v10 ∧ (Int32.toInt (v10 37 0 3) = Int32.toInt (v 37 0 3)) ∧ (Int32.toInt (v10 37 0 4) = Int32.toInt (v 37 0 4)) ∧ (Int32.toInt (v 30 0 8) < 0 ∨ 0 ≤ Int32.toInt (v10 30 0 8)) ∧ (¬ Int32.toInt r6 = 0 ∨ 0 ≤ Int32.toInt (v10 30 0 8)) ∧ (Int32.toInt r9 = 0 ∨ (Int32.toInt r9 = Int32.toInt (v 30 0 12) ∧ ¬ Int32.toInt r6 = 0)) := hr9
    obtain ⟨hI_v10, hr9⟩ := hr9
    have : ((v10 36 0 3).toInt = 0 ∧ (v10 36 0 4).toInt = 0) ∨ (0 < (v10 36 0 3).toInt ∧ 0 < (v10 36 0 4).toInt) := hI_v10.2.1
    have : (0 : Int) ≤ (v 37 0 3).toInt ∧ (v 37 0 3).toInt ≤ (6 : Int) := hI_v.1 37 0 3
    have : (0 : Int) ≤ (v 37 0 4).toInt ∧ (v 37 0 4).toInt ≤ (4 : Int) := hI_v.1 37 0 4
    have : (-1 : Int) ≤ (v 30 0 8).toInt ∧ (v 30 0 8).toInt ≤ (100 : Int) := hI_v.1 30 0 8
    have : (2 : Int32).toInt = 2 := (by decide)
    refine ok_some ?_
    show IM v10 ∧ (0 : Int) ≤ Int32.toInt r9 ∧ Int32.toInt r9 ≤ (9 : Int) ∧ (Int32.toInt (v10 37 0 3) = Int32.toInt (v 37 0 3)) ∧ (Int32.toInt (v10 37 0 4) = Int32.toInt (v 37 0 4)) ∧ (Int32.toInt (v 30 0 8) < 0 ∨ 0 ≤ Int32.toInt (v10 30 0 8)) ∧ (Int32.toInt r9 ≤ Int32.toInt a2)
    refine ⟨hI_v10, ?_⟩
    omega
  · skip
    have ic4 := i_ne c4
    have : (0 : Int32).toInt = 0 := (by decide)
    refine ok_ite _ (fun c11 => ?_) (fun c11 => ?_)
    · skip
      have ic11 := i_eq c11
      have : (0 : Int) ≤ (v 30 0 11).toInt ∧ (v 30 0 11).toInt ≤ (5 : Int) := hI_v.1 30 0 11
      have : (2 : Int32).toInt = 2 := (by decide)
      refine ok_bind (k_X8_in v hI_v (v 30 0 12) a1 a2 ) (fun r13 hr13 => ?_)
      have hr13 : (0 : Int) ≤ Int32.toInt r13 ∧ Int32.toInt r13 ≤ (1 : Int) ∧ (Int32.toInt r13 = 0 ∨ (Int32.toInt a1 ≤ Int32.toInt (v 30 0 12) ∧ Int32.toInt (v 30 0 12) ≤ Int32.toInt a2)) := hr13
      refine ok_kb2 (k_X8_takes v hI_v r13 2 ) (fun r16 v17 hr16 => ?_)
      have hr16 : IM v17 ∧ (Int32.toInt (v17 37 0 3) = Int32.toInt (v 37 0 3)) ∧ (Int32.toInt (v17 37 0 4) = Int32.toInt (v 37 0 4)) ∧ (Int32.toInt (v 30 0 8) < 0 ∨ 0 ≤ Int32.toInt (v17 30 0 8)) ∧ (¬ Int32.toInt r13 = 0 ∨ 0 ≤ Int32.toInt (v17 30 0 8)) ∧ (Int32.toInt r16 = 0 ∨ (Int32.toInt r16 = Int32.toInt (v 30 0 12) ∧ ¬ Int32.toInt r13 = 0)) := hr16
      obtain ⟨hI_v17, hr16⟩ := hr16
      have : ((v17 36 0 3).toInt = 0 ∧ (v17 36 0 4).toInt = 0) ∨ (0 < (v17 36 0 3).toInt ∧ 0 < (v17 36 0 4).toInt) := hI_v17.2.1
      have : (0 : Int) ≤ (v 37 0 3).toInt ∧ (v 37 0 3).toInt ≤ (6 : Int) := hI_v.1 37 0 3
      have : (0 : Int) ≤ (v 37 0 4).toInt ∧ (v 37 0 4).toInt ≤ (4 : Int) := hI_v.1 37 0 4
      have : (-1 : Int) ≤ (v 30 0 8).toInt ∧ (v 30 0 8).toInt ≤ (100 : Int) := hI_v.1 30 0 8
      have : (2 : Int32).toInt = 2 := (by decide)
      refine ok_some ?_
      show IM v17 ∧ (0 : Int) ≤ Int32.toInt r16 ∧ Int32.toInt r16 ≤ (9 : Int) ∧ (Int32.toInt (v17 37 0 3) = Int32.toInt (v 37 0 3)) ∧ (Int32.toInt (v17 37 0 4) = Int32.toInt (v 37 0 4)) ∧ (Int32.toInt (v 30 0 8) < 0 ∨ 0 ≤ Int32.toInt (v17 30 0 8)) ∧ (Int32.toInt r16 ≤ Int32.toInt a2)
      refine ⟨hI_v17, ?_⟩
      omega
    · skip
      have ic11 := i_ne c11
      have : (0 : Int) ≤ (v 30 0 11).toInt ∧ (v 30 0 11).toInt ≤ (5 : Int) := hI_v.1 30 0 11
      have : (2 : Int32).toInt = 2 := (by decide)
      refine ok_kb2 (k_X8_takes v hI_v 0 1 ) (fun r19 v20 hr19 => ?_)
      have hr19 : IM v20 ∧ (Int32.toInt (v20 37 0 3) = Int32.toInt (v 37 0 3)) ∧ (Int32.toInt (v20 37 0 4) = Int32.toInt (v 37 0 4)) ∧ (Int32.toInt (v 30 0 8) < 0 ∨ 0 ≤ Int32.toInt (v20 30 0 8)) ∧ (¬ Int32.toInt 0 = 0 ∨ 0 ≤ Int32.toInt (v20 30 0 8)) ∧ (Int32.toInt r19 = 0 ∨ (Int32.toInt r19 = Int32.toInt (v 30 0 12) ∧ ¬ Int32.toInt 0 = 0)) := hr19
      obtain ⟨hI_v20, hr19⟩ := hr19
      have : ((v20 36 0 3).toInt = 0 ∧ (v20 36 0 4).toInt = 0) ∨ (0 < (v20 36 0 3).toInt ∧ 0 < (v20 36 0 4).toInt) := hI_v20.2.1
      have : (0 : Int) ≤ (v 37 0 3).toInt ∧ (v 37 0 3).toInt ≤ (6 : Int) := hI_v.1 37 0 3
      have : (0 : Int) ≤ (v 37 0 4).toInt ∧ (v 37 0 4).toInt ≤ (4 : Int) := hI_v.1 37 0 4
      have : (-1 : Int) ≤ (v 30 0 8).toInt ∧ (v 30 0 8).toInt ≤ (100 : Int) := hI_v.1 30 0 8
      have : (0 : Int32).toInt = 0 := (by decide)
      have : (1 : Int32).toInt = 1 := (by decide)
      refine ok_some ?_
      show IM v20 ∧ (0 : Int) ≤ Int32.toInt r19 ∧ Int32.toInt r19 ≤ (9 : Int) ∧ (Int32.toInt (v20 37 0 3) = Int32.toInt (v 37 0 3)) ∧ (Int32.toInt (v20 37 0 4) = Int32.toInt (v 37 0 4)) ∧ (Int32.toInt (v 30 0 8) < 0 ∨ 0 ≤ Int32.toInt (v20 30 0 8)) ∧ (Int32.toInt r19 ≤ Int32.toInt a2)
      refine ⟨hI_v20, ?_⟩
      omega
set_option maxHeartbeats 4000000 in
theorem k_X8_kindOf (v : Mm) (hI_v : IM v) (a0 : Int32) : ok (g_X8_kindOf v a0) (fun z => ((Int32.toInt z = 0 ∧ ¬ (Int32.toInt a0 = 107 ∨ Int32.toInt a0 = 115 ∨ Int32.toInt a0 = 101 ∨ Int32.toInt a0 = 100 ∨ Int32.toInt a0 = 103)) ∨ (1 ≤ Int32.toInt z ∧ (Int32.toInt a0 = 107 ∨ Int32.toInt a0 = 115 ∨ Int32.toInt a0 = 101 ∨ Int32.toInt a0 = 100 ∨ Int32.toInt a0 = 103)))) := by
  have : ((v 36 0 3).toInt = 0 ∧ (v 36 0 4).toInt = 0) ∨ (0 < (v 36 0 3).toInt ∧ 0 < (v 36 0 4).toInt) := hI_v.2.1
  unfold g_X8_kindOf
  refine ok_ite _ (fun c1 => ?_) (fun c1 => ?_)
  · skip
    have ic1 := i_eq c1
    have : (107 : Int32).toInt = 107 := (by decide)
    refine ok_some ?_
    show ((Int32.toInt (1 : Int32) = 0 ∧ ¬ (Int32.toInt a0 = 107 ∨ Int32.toInt a0 = 115 ∨ Int32.toInt a0 = 101 ∨ Int32.toInt a0 = 100 ∨ Int32.toInt a0 = 103)) ∨ (1 ≤ Int32.toInt (1 : Int32) ∧ (Int32.toInt a0 = 107 ∨ Int32.toInt a0 = 115 ∨ Int32.toInt a0 = 101 ∨ Int32.toInt a0 = 100 ∨ Int32.toInt a0 = 103)))
    have : (1 : Int32).toInt = 1 := (by decide)
    omega
  · skip
    have ic1 := i_ne c1
    have : (107 : Int32).toInt = 107 := (by decide)
    refine ok_ite _ (fun c2 => ?_) (fun c2 => ?_)
    · skip
      have ic2 := i_eq c2
      have : (115 : Int32).toInt = 115 := (by decide)
      refine ok_some ?_
      show ((Int32.toInt (2 : Int32) = 0 ∧ ¬ (Int32.toInt a0 = 107 ∨ Int32.toInt a0 = 115 ∨ Int32.toInt a0 = 101 ∨ Int32.toInt a0 = 100 ∨ Int32.toInt a0 = 103)) ∨ (1 ≤ Int32.toInt (2 : Int32) ∧ (Int32.toInt a0 = 107 ∨ Int32.toInt a0 = 115 ∨ Int32.toInt a0 = 101 ∨ Int32.toInt a0 = 100 ∨ Int32.toInt a0 = 103)))
      have : (2 : Int32).toInt = 2 := (by decide)
      omega
    · skip
      have ic2 := i_ne c2
      have : (115 : Int32).toInt = 115 := (by decide)
      refine ok_ite _ (fun c3 => ?_) (fun c3 => ?_)
      · skip
        have ic3 := i_eq c3
        have : (101 : Int32).toInt = 101 := (by decide)
        refine ok_some ?_
        show ((Int32.toInt (3 : Int32) = 0 ∧ ¬ (Int32.toInt a0 = 107 ∨ Int32.toInt a0 = 115 ∨ Int32.toInt a0 = 101 ∨ Int32.toInt a0 = 100 ∨ Int32.toInt a0 = 103)) ∨ (1 ≤ Int32.toInt (3 : Int32) ∧ (Int32.toInt a0 = 107 ∨ Int32.toInt a0 = 115 ∨ Int32.toInt a0 = 101 ∨ Int32.toInt a0 = 100 ∨ Int32.toInt a0 = 103)))
        have : (3 : Int32).toInt = 3 := (by decide)
        omega
      · skip
        have ic3 := i_ne c3
        have : (101 : Int32).toInt = 101 := (by decide)
        refine ok_ite _ (fun c4 => ?_) (fun c4 => ?_)
        · skip
          have ic4 := i_eq c4
          have : (100 : Int32).toInt = 100 := (by decide)
          refine ok_some ?_
          show ((Int32.toInt (4 : Int32) = 0 ∧ ¬ (Int32.toInt a0 = 107 ∨ Int32.toInt a0 = 115 ∨ Int32.toInt a0 = 101 ∨ Int32.toInt a0 = 100 ∨ Int32.toInt a0 = 103)) ∨ (1 ≤ Int32.toInt (4 : Int32) ∧ (Int32.toInt a0 = 107 ∨ Int32.toInt a0 = 115 ∨ Int32.toInt a0 = 101 ∨ Int32.toInt a0 = 100 ∨ Int32.toInt a0 = 103)))
          have : (4 : Int32).toInt = 4 := (by decide)
          omega
        · skip
          have ic4 := i_ne c4
          have : (100 : Int32).toInt = 100 := (by decide)
          refine ok_ite _ (fun c5 => ?_) (fun c5 => ?_)
          · skip
            have ic5 := i_eq c5
            have : (103 : Int32).toInt = 103 := (by decide)
            refine ok_some ?_
            show ((Int32.toInt (5 : Int32) = 0 ∧ ¬ (Int32.toInt a0 = 107 ∨ Int32.toInt a0 = 115 ∨ Int32.toInt a0 = 101 ∨ Int32.toInt a0 = 100 ∨ Int32.toInt a0 = 103)) ∨ (1 ≤ Int32.toInt (5 : Int32) ∧ (Int32.toInt a0 = 107 ∨ Int32.toInt a0 = 115 ∨ Int32.toInt a0 = 101 ∨ Int32.toInt a0 = 100 ∨ Int32.toInt a0 = 103)))
            have : (5 : Int32).toInt = 5 := (by decide)
            omega
          · skip
            have ic5 := i_ne c5
            have : (103 : Int32).toInt = 103 := (by decide)
            refine ok_some ?_
            show ((Int32.toInt (0 : Int32) = 0 ∧ ¬ (Int32.toInt a0 = 107 ∨ Int32.toInt a0 = 115 ∨ Int32.toInt a0 = 101 ∨ Int32.toInt a0 = 100 ∨ Int32.toInt a0 = 103)) ∨ (1 ≤ Int32.toInt (0 : Int32) ∧ (Int32.toInt a0 = 107 ∨ Int32.toInt a0 = 115 ∨ Int32.toInt a0 = 101 ∨ Int32.toInt a0 = 100 ∨ Int32.toInt a0 = 103)))
            have : (0 : Int32).toInt = 0 := (by decide)
            omega
set_option maxHeartbeats 4000000 in
theorem k_X8_follows (v : Mm) (hI_v : IM v) (a1 : Int32) (a2 : Int32) (h_a1 : (0 : Int) ≤ a1.toInt ∧ a1.toInt ≤ (0 : Int)) (h_a2 : (0 : Int) ≤ a2.toInt ∧ a2.toInt ≤ (9 : Int)) : ok (g_X8_follows v a1 a2) (fun z => IM z.2 ∧ (0 : Int) ≤ Int32.toInt (z.1) ∧ Int32.toInt (z.1) ≤ (9 : Int) ∧ (Int32.toInt (z.2 37 0 3) = Int32.toInt (v 37 0 3)) ∧ (Int32.toInt (z.2 37 0 4) = Int32.toInt (v 37 0 4)) ∧ (Int32.toInt (v 30 0 8) < 0 ∨ 0 ≤ Int32.toInt (z.2 30 0 8)) ∧ (Int32.toInt (z.1) ≤ Int32.toInt a2)) := by
  have : ((v 36 0 3).toInt = 0 ∧ (v 36 0 4).toInt = 0) ∨ (0 < (v 36 0 3).toInt ∧ 0 < (v 36 0 4).toInt) := hI_v.2.1
  unfold g_X8_follows
  refine ok_ite _ (fun c1 => ?_) (fun c1 => ?_)
  · skip
    have ic1 := i_eq c1
    have : (0 : Int) ≤ (v 30 0 11).toInt ∧ (v 30 0 11).toInt ≤ (5 : Int) := hI_v.1 30 0 11
    have : (3 : Int32).toInt = 3 := (by decide)
    refine ok_kb2 (k_X8_takes v hI_v 1 1 ) (fun r3 v4 hr3 => ?_)
    have hr3 : IM v4 ∧ (Int32.toInt (v4 37 0 3) = Int32.toInt (v 37 0 3)) ∧ (Int32.toInt (v4 37 0 4) = Int32.toInt (v 37 0 4)) ∧ (Int32.toInt (v 30 0 8) < 0 ∨ 0 ≤ Int32.toInt (v4 30 0 8)) ∧ (¬ Int32.toInt 1 = 0 ∨ 0 ≤ Int32.toInt (v4 30 0 8)) ∧ (Int32.toInt r3 = 0 ∨ (Int32.toInt r3 = Int32.toInt (v 30 0 12) ∧ ¬ Int32.toInt 1 = 0)) := hr3
    obtain ⟨hI_v4, hr3⟩ := hr3
    have : ((v4 36 0 3).toInt = 0 ∧ (v4 36 0 4).toInt = 0) ∨ (0 < (v4 36 0 3).toInt ∧ 0 < (v4 36 0 4).toInt) := hI_v4.2.1
    have : (0 : Int) ≤ (v 37 0 3).toInt ∧ (v 37 0 3).toInt ≤ (6 : Int) := hI_v.1 37 0 3
    have : (0 : Int) ≤ (v 37 0 4).toInt ∧ (v 37 0 4).toInt ≤ (4 : Int) := hI_v.1 37 0 4
    have : (-1 : Int) ≤ (v 30 0 8).toInt ∧ (v 30 0 8).toInt ≤ (100 : Int) := hI_v.1 30 0 8
    have : (1 : Int32).toInt = 1 := (by decide)
    refine ok_kb2 (k_X8_figure v4 hI_v4 a1 a2 (by omega) (by omega)) (fun r6 v7 hr6 => ?_)
    have hr6 : IM v7 ∧ (0 : Int) ≤ Int32.toInt r6 ∧ Int32.toInt r6 ≤ (9 : Int) ∧ (Int32.toInt (v7 37 0 3) = Int32.toInt (v4 37 0 3)) ∧ (Int32.toInt (v7 37 0 4) = Int32.toInt (v4 37 0 4)) ∧ (Int32.toInt (v4 30 0 8) < 0 ∨ 0 ≤ Int32.toInt (v7 30 0 8)) ∧ (Int32.toInt r6 ≤ Int32.toInt a2) := hr6
    obtain ⟨hI_v7, hr6⟩ := hr6
    have : ((v7 36 0 3).toInt = 0 ∧ (v7 36 0 4).toInt = 0) ∨ (0 < (v7 36 0 3).toInt ∧ 0 < (v7 36 0 4).toInt) := hI_v7.2.1
    have : (0 : Int) ≤ (v4 37 0 3).toInt ∧ (v4 37 0 3).toInt ≤ (6 : Int) := hI_v4.1 37 0 3
    have : (0 : Int) ≤ (v4 37 0 4).toInt ∧ (v4 37 0 4).toInt ≤ (4 : Int) := hI_v4.1 37 0 4
    have : (-1 : Int) ≤ (v4 30 0 8).toInt ∧ (v4 30 0 8).toInt ≤ (100 : Int) := hI_v4.1 30 0 8
    refine ok_some ?_
    show IM v7 ∧ (0 : Int) ≤ Int32.toInt r6 ∧ Int32.toInt r6 ≤ (9 : Int) ∧ (Int32.toInt (v7 37 0 3) = Int32.toInt (v 37 0 3)) ∧ (Int32.toInt (v7 37 0 4) = Int32.toInt (v 37 0 4)) ∧ (Int32.toInt (v 30 0 8) < 0 ∨ 0 ≤ Int32.toInt (v7 30 0 8)) ∧ (Int32.toInt r6 ≤ Int32.toInt a2)
    refine ⟨hI_v7, ?_⟩
    omega
  · skip
    have ic1 := i_ne c1
    have : (0 : Int) ≤ (v 30 0 11).toInt ∧ (v 30 0 11).toInt ≤ (5 : Int) := hI_v.1 30 0 11
    have : (3 : Int32).toInt = 3 := (by decide)
    refine ok_kb2 (k_X8_takes v hI_v 0 1 ) (fun r9 v10 hr9 => ?_)
    have hr9 : IM v10 ∧ (Int32.toInt (v10 37 0 3) = Int32.toInt (v 37 0 3)) ∧ (Int32.toInt (v10 37 0 4) = Int32.toInt (v 37 0 4)) ∧ (Int32.toInt (v 30 0 8) < 0 ∨ 0 ≤ Int32.toInt (v10 30 0 8)) ∧ (¬ Int32.toInt 0 = 0 ∨ 0 ≤ Int32.toInt (v10 30 0 8)) ∧ (Int32.toInt r9 = 0 ∨ (Int32.toInt r9 = Int32.toInt (v 30 0 12) ∧ ¬ Int32.toInt 0 = 0)) := hr9
    obtain ⟨hI_v10, hr9⟩ := hr9
    have : ((v10 36 0 3).toInt = 0 ∧ (v10 36 0 4).toInt = 0) ∨ (0 < (v10 36 0 3).toInt ∧ 0 < (v10 36 0 4).toInt) := hI_v10.2.1
    have : (0 : Int) ≤ (v 37 0 3).toInt ∧ (v 37 0 3).toInt ≤ (6 : Int) := hI_v.1 37 0 3
    have : (0 : Int) ≤ (v 37 0 4).toInt ∧ (v 37 0 4).toInt ≤ (4 : Int) := hI_v.1 37 0 4
    have : (-1 : Int) ≤ (v 30 0 8).toInt ∧ (v 30 0 8).toInt ≤ (100 : Int) := hI_v.1 30 0 8
    have : (0 : Int32).toInt = 0 := (by decide)
    have : (1 : Int32).toInt = 1 := (by decide)
    refine ok_kb2 (k_X8_figure v10 hI_v10 a1 a2 (by omega) (by omega)) (fun r12 v13 hr12 => ?_)
    have hr12 : IM v13 ∧ (0 : Int) ≤ Int32.toInt r12 ∧ Int32.toInt r12 ≤ (9 : Int) ∧ (Int32.toInt (v13 37 0 3) = Int32.toInt (v10 37 0 3)) ∧ (Int32.toInt (v13 37 0 4) = Int32.toInt (v10 37 0 4)) ∧ (Int32.toInt (v10 30 0 8) < 0 ∨ 0 ≤ Int32.toInt (v13 30 0 8)) ∧ (Int32.toInt r12 ≤ Int32.toInt a2) := hr12
    obtain ⟨hI_v13, hr12⟩ := hr12
    have : ((v13 36 0 3).toInt = 0 ∧ (v13 36 0 4).toInt = 0) ∨ (0 < (v13 36 0 3).toInt ∧ 0 < (v13 36 0 4).toInt) := hI_v13.2.1
    have : (0 : Int) ≤ (v10 37 0 3).toInt ∧ (v10 37 0 3).toInt ≤ (6 : Int) := hI_v10.1 37 0 3
    have : (0 : Int) ≤ (v10 37 0 4).toInt ∧ (v10 37 0 4).toInt ≤ (4 : Int) := hI_v10.1 37 0 4
    have : (-1 : Int) ≤ (v10 30 0 8).toInt ∧ (v10 30 0 8).toInt ≤ (100 : Int) := hI_v10.1 30 0 8
    refine ok_some ?_
    show IM v13 ∧ (0 : Int) ≤ Int32.toInt r12 ∧ Int32.toInt r12 ≤ (9 : Int) ∧ (Int32.toInt (v13 37 0 3) = Int32.toInt (v 37 0 3)) ∧ (Int32.toInt (v13 37 0 4) = Int32.toInt (v 37 0 4)) ∧ (Int32.toInt (v 30 0 8) < 0 ∨ 0 ≤ Int32.toInt (v13 30 0 8)) ∧ (Int32.toInt r12 ≤ Int32.toInt a2)
    refine ⟨hI_v13, ?_⟩
    omega
set_option maxHeartbeats 4000000 in
theorem k_X8_isTold (v : Mm) (hI_v : IM v) (a1 : Int32) (a2 : Int32) (a3 : Int32) : ok (g_X8_isTold v a1 a2 a3) (fun z => (0 : Int) ≤ Int32.toInt z ∧ Int32.toInt z ≤ (1 : Int)) := by
  have : ((v 36 0 3).toInt = 0 ∧ (v 36 0 4).toInt = 0) ∨ (0 < (v 36 0 3).toInt ∧ 0 < (v 36 0 4).toInt) := hI_v.2.1
  have loop6 : ∀ (n6 : Nat) (x4_6 : Int32) (x5_6 : Int32), ((0 : Int) ≤ Int32.toInt x5_6 ∧ Int32.toInt x5_6 ≤ (6 : Int)) → (6 - Int32.toInt x5_6 < (n6 : Int)) → ok (g_X8_isTold_L6  v a1 a2 a3 n6 x4_6 x5_6) (fun z => (0 : Int) ≤ Int32.toInt z ∧ Int32.toInt z ≤ (1 : Int)) := by
    intro n6
    induction n6 with
    | zero =>
      intro x4_6 x5_6 hv0_6 hm6
      exfalso
      omega
    | succ n6 ih6 =>
      intro x4_6 x5_6 hv0_6 hm6
      show ok (b_X8_isTold_L6  (g_X8_isTold_L6  v a1 a2 a3 n6) v a1 a2 a3 x4_6 x5_6) _
      unfold b_X8_isTold_L6
      try rw [tc_3]
      refine ok_ite _ (fun c1 => ?_) (fun c1 => ?_)
      · skip
        have ic1 := i_le c1
        have : (0 : Int) ≤ (v 37 0 3).toInt ∧ (v 37 0 3).toInt ≤ (6 : Int) := hI_v.1 37 0 3
        refine ok_some ?_
        show (0 : Int) ≤ Int32.toInt x4_6 ∧ Int32.toInt x4_6 ≤ (1 : Int)
        omega
      · skip
        have ic1 := i_nle c1
        have : (0 : Int) ≤ (v 37 0 3).toInt ∧ (v 37 0 3).toInt ≤ (6 : Int) := hI_v.1 37 0 3
        refine ok_ite _ (fun c2 => ?_) (fun c2 => ?_)
        · skip
          have ic2 := i_eq c2
          have : (0 : Int32).toInt = 0 := (by decide)
          refine ok_grd _ ?_ ?_
          · skip
            have : (8 : Int32).toInt = 8 := (by decide)
            have : (3 : Int32).toInt = 3 := (by decide)
            (first | have := sp_cmulx (3 : Int32) x5_6 3 (by decide) (by omega) | obtain ⟨k1, hk1⟩ := sp_cmul (3 : Int32) x5_6 3 (by decide))
            (first | have := sp_addx (8 : Int32) ((3 : Int32) * x5_6) (by omega) | obtain ⟨k2, hk2⟩ := sp_add (8 : Int32) ((3 : Int32) * x5_6))
            exact gr (by omega) (by omega)
          refine ok_ite _ (fun c4 => ?_) (fun c4 => ?_)
          · skip
            have ic4 := i_eq c4
            refine ok_grd _ ?_ ?_
            · skip
              have : (8 : Int32).toInt = 8 := (by decide)
              have : (3 : Int32).toInt = 3 := (by decide)
              (first | have := sp_cmulx (3 : Int32) x5_6 3 (by decide) (by omega) | obtain ⟨k3, hk3⟩ := sp_cmul (3 : Int32) x5_6 3 (by decide))
              (first | have := sp_addx (8 : Int32) ((3 : Int32) * x5_6) (by omega) | obtain ⟨k4, hk4⟩ := sp_add (8 : Int32) ((3 : Int32) * x5_6))
              have : (1 : Int32).toInt = 1 := (by decide)
              (first | have := sp_addx ((8 : Int32) + ((3 : Int32) * x5_6)) (1 : Int32) (by omega) | obtain ⟨k5, hk5⟩ := sp_add ((8 : Int32) + ((3 : Int32) * x5_6)) (1 : Int32))
              exact gr (by omega) (by omega)
            refine ok_ite _ (fun c6 => ?_) (fun c6 => ?_)
            · skip
              have ic6 := i_eq c6
              refine ok_grd _ ?_ ?_
              · skip
                have : (8 : Int32).toInt = 8 := (by decide)
                have : (3 : Int32).toInt = 3 := (by decide)
                (first | have := sp_cmulx (3 : Int32) x5_6 3 (by decide) (by omega) | obtain ⟨k6, hk6⟩ := sp_cmul (3 : Int32) x5_6 3 (by decide))
                (first | have := sp_addx (8 : Int32) ((3 : Int32) * x5_6) (by omega) | obtain ⟨k7, hk7⟩ := sp_add (8 : Int32) ((3 : Int32) * x5_6))
                have : (2 : Int32).toInt = 2 := (by decide)
                (first | have := sp_addx ((8 : Int32) + ((3 : Int32) * x5_6)) (2 : Int32) (by omega) | obtain ⟨k8, hk8⟩ := sp_add ((8 : Int32) + ((3 : Int32) * x5_6)) (2 : Int32))
                exact gr (by omega) (by omega)
              refine ok_ite _ (fun c8 => ?_) (fun c8 => ?_)
              · skip
                have ic8 := i_eq c8
                have : (1 : Int32).toInt = 1 := (by decide)
                have := i_bd x5_6
                (first | have := sp_addx x5_6 (1 : Int32) (by omega) | obtain ⟨k9, hk9⟩ := sp_add x5_6 (1 : Int32))
                exact ih6 1 (x5_6 + 1) (by omega) (by omega)
              · skip
                have ic8 := i_ne c8
                have : (0 : Int32).toInt = 0 := (by decide)
                have : (1 : Int32).toInt = 1 := (by decide)
                have := i_bd x5_6
                (first | have := sp_addx x5_6 (1 : Int32) (by omega) | obtain ⟨k10, hk10⟩ := sp_add x5_6 (1 : Int32))
                exact ih6 0 (x5_6 + 1) (by omega) (by omega)
            · skip
              have ic6 := i_ne c6
              have : (0 : Int32).toInt = 0 := (by decide)
              have : (1 : Int32).toInt = 1 := (by decide)
              have := i_bd x5_6
              (first | have := sp_addx x5_6 (1 : Int32) (by omega) | obtain ⟨k11, hk11⟩ := sp_add x5_6 (1 : Int32))
              exact ih6 0 (x5_6 + 1) (by omega) (by omega)
          · skip
            have ic4 := i_ne c4
            have : (0 : Int32).toInt = 0 := (by decide)
            have : (1 : Int32).toInt = 1 := (by decide)
            have := i_bd x5_6
            (first | have := sp_addx x5_6 (1 : Int32) (by omega) | obtain ⟨k12, hk12⟩ := sp_add x5_6 (1 : Int32))
            exact ih6 0 (x5_6 + 1) (by omega) (by omega)
        · skip
          have ic2 := i_ne c2
          have : (0 : Int32).toInt = 0 := (by decide)
          have : (1 : Int32).toInt = 1 := (by decide)
          have := i_bd x5_6
          (first | have := sp_addx x5_6 (1 : Int32) (by omega) | obtain ⟨k13, hk13⟩ := sp_add x5_6 (1 : Int32))
          exact ih6 1 (x5_6 + 1) (by omega) (by omega)
  unfold g_X8_isTold
  try rw [tc_3]
  have : (0 : Int32).toInt = 0 := (by decide)
  exact loop6 2000 0 0 (by omega) (by omega)
set_option maxHeartbeats 4000000 in
theorem k_X8_letterOf (v : Mm) (hI_v : IM v)  : ok (g_X8_letterOf v ) (fun z => IM z.2 ∧ (Int32.toInt (z.2 37 0 3) = Int32.toInt (v 37 0 3)) ∧ (Int32.toInt (z.2 37 0 4) = Int32.toInt (v 37 0 4)) ∧ (Int32.toInt (v 30 0 8) < 0 ∨ 0 ≤ Int32.toInt (z.2 30 0 8))) := by
  have : ((v 36 0 3).toInt = 0 ∧ (v 36 0 4).toInt = 0) ∨ (0 < (v 36 0 3).toInt ∧ 0 < (v 36 0 4).toInt) := hI_v.2.1
  unfold g_X8_letterOf
  refine ok_ite _ (fun c1 => ?_) (fun c1 => ?_)
  · skip
    have ic1 := i_eq c1
    have : (0 : Int) ≤ (v 30 0 11).toInt ∧ (v 30 0 11).toInt ≤ (5 : Int) := hI_v.1 30 0 11
    have : (1 : Int32).toInt = 1 := (by decide)
    refine ok_kb2 (k_X8_takes v hI_v 1 1 ) (fun r3 v4 hr3 => ?_)
    have hr3 : IM v4 ∧ (Int32.toInt (v4 37 0 3) = Int32.toInt (v 37 0 3)) ∧ (Int32.toInt (v4 37 0 4) = Int32.toInt (v 37 0 4)) ∧ (Int32.toInt (v 30 0 8) < 0 ∨ 0 ≤ Int32.toInt (v4 30 0 8)) ∧ (¬ Int32.toInt 1 = 0 ∨ 0 ≤ Int32.toInt (v4 30 0 8)) ∧ (Int32.toInt r3 = 0 ∨ (Int32.toInt r3 = Int32.toInt (v 30 0 12) ∧ ¬ Int32.toInt 1 = 0)) := hr3
    obtain ⟨hI_v4, hr3⟩ := hr3
    have : ((v4 36 0 3).toInt = 0 ∧ (v4 36 0 4).toInt = 0) ∨ (0 < (v4 36 0 3).toInt ∧ 0 < (v4 36 0 4).toInt) := hI_v4.2.1
    have : (0 : Int) ≤ (v 37 0 3).toInt ∧ (v 37 0 3).toInt ≤ (6 : Int) := hI_v.1 37 0 3
    have : (0 : Int) ≤ (v 37 0 4).toInt ∧ (v 37 0 4).toInt ≤ (4 : Int) := hI_v.1 37 0 4
    have : (-1 : Int) ≤ (v 30 0 8).toInt ∧ (v 30 0 8).toInt ≤ (100 : Int) := hI_v.1 30 0 8
    have : (1 : Int32).toInt = 1 := (by decide)
    refine ok_some ?_
    show IM v4 ∧ (Int32.toInt (v4 37 0 3) = Int32.toInt (v 37 0 3)) ∧ (Int32.toInt (v4 37 0 4) = Int32.toInt (v 37 0 4)) ∧ (Int32.toInt (v 30 0 8) < 0 ∨ 0 ≤ Int32.toInt (v4 30 0 8))
    have : (97 : Int32).toInt = 97 := (by decide)
    have := i_bd r3
    (first | have := sp_subx r3 (97 : Int32) (by omega) | obtain ⟨k1, hk1⟩ := sp_sub r3 (97 : Int32))
    refine ⟨hI_v4, ?_⟩
    omega
  · skip
    have ic1 := i_ne c1
    have : (0 : Int) ≤ (v 30 0 11).toInt ∧ (v 30 0 11).toInt ≤ (5 : Int) := hI_v.1 30 0 11
    have : (1 : Int32).toInt = 1 := (by decide)
    refine ok_kb2 (k_X8_takes v hI_v 0 1 ) (fun r6 v7 hr6 => ?_)
    have hr6 : IM v7 ∧ (Int32.toInt (v7 37 0 3) = Int32.toInt (v 37 0 3)) ∧ (Int32.toInt (v7 37 0 4) = Int32.toInt (v 37 0 4)) ∧ (Int32.toInt (v 30 0 8) < 0 ∨ 0 ≤ Int32.toInt (v7 30 0 8)) ∧ (¬ Int32.toInt 0 = 0 ∨ 0 ≤ Int32.toInt (v7 30 0 8)) ∧ (Int32.toInt r6 = 0 ∨ (Int32.toInt r6 = Int32.toInt (v 30 0 12) ∧ ¬ Int32.toInt 0 = 0)) := hr6
    obtain ⟨hI_v7, hr6⟩ := hr6
    have : ((v7 36 0 3).toInt = 0 ∧ (v7 36 0 4).toInt = 0) ∨ (0 < (v7 36 0 3).toInt ∧ 0 < (v7 36 0 4).toInt) := hI_v7.2.1
    have : (0 : Int) ≤ (v 37 0 3).toInt ∧ (v 37 0 3).toInt ≤ (6 : Int) := hI_v.1 37 0 3
    have : (0 : Int) ≤ (v 37 0 4).toInt ∧ (v 37 0 4).toInt ≤ (4 : Int) := hI_v.1 37 0 4
    have : (-1 : Int) ≤ (v 30 0 8).toInt ∧ (v 30 0 8).toInt ≤ (100 : Int) := hI_v.1 30 0 8
    have : (0 : Int32).toInt = 0 := (by decide)
    have : (1 : Int32).toInt = 1 := (by decide)
    refine ok_some ?_
    show IM v7 ∧ (Int32.toInt (v7 37 0 3) = Int32.toInt (v 37 0 3)) ∧ (Int32.toInt (v7 37 0 4) = Int32.toInt (v 37 0 4)) ∧ (Int32.toInt (v 30 0 8) < 0 ∨ 0 ≤ Int32.toInt (v7 30 0 8))
    have : (97 : Int32).toInt = 97 := (by decide)
    have := i_bd r6
    (first | have := sp_subx r6 (97 : Int32) (by omega) | obtain ⟨k2, hk2⟩ := sp_sub r6 (97 : Int32))
    refine ⟨hI_v7, ?_⟩
    omega
set_option maxHeartbeats 4000000 in
theorem k_X8_readsWord (v : Mm) (hI_v : IM v)  : ok (g_X8_readsWord v ) (fun z => IM z ∧ (Int32.toInt (z 37 0 4) = Int32.toInt (v 37 0 4)) ∧ ((Int32.toInt (v 30 0 8) < 0 ∧ Int32.toInt (z 37 0 3) = Int32.toInt (v 37 0 3) + 1) ∨ 0 ≤ Int32.toInt (z 30 0 8))) := by
  have : ((v 36 0 3).toInt = 0 ∧ (v 36 0 4).toInt = 0) ∨ (0 < (v 36 0 3).toInt ∧ 0 < (v 36 0 4).toInt) := hI_v.2.1
  have join131 : ∀ (w131 : Mm) (x1_131 : Int32) (x2_131 : Int32) (x3_131 : Int32) (x4_131 : Int32), (IM w131) → ((8 : Int) ≤ Int32.toInt x1_131 ∧ Int32.toInt x1_131 ≤ (23 : Int)) → (Int32.toInt (w131 37 0 3) = Int32.toInt (v 37 0 3)) → (Int32.toInt (w131 37 0 4) = Int32.toInt (v 37 0 4)) → (Int32.toInt (v 30 0 8) < 0 ∨ 0 ≤ Int32.toInt (w131 30 0 8)) → (Int32.toInt (v 37 0 3) ≤ 5 ∨ 0 ≤ Int32.toInt (w131 30 0 8)) →  ok (Option.bind (g_X8_isWell w131) (fun r2 => if r2 = 0 then (some w131) else (if x1_131 < 0 ∨ 65 ≤ Int32.toNatClampNeg x1_131 then none else (Option.bind (some (up3 w131 37 0 (Int32.toNatClampNeg x1_131) x2_131)) (fun v6 => if x1_131 + 1 < 0 ∨ 65 ≤ Int32.toNatClampNeg (x1_131 + 1) then none else (Option.bind (some (up3 v6 37 0 (Int32.toNatClampNeg (x1_131 + 1)) x3_131)) (fun v8 => if x1_131 + 2 < 0 ∨ 65 ≤ Int32.toNatClampNeg (x1_131 + 2) then none else (Option.bind (some (up3 v8 37 0 (Int32.toNatClampNeg (x1_131 + 2)) x4_131)) (fun v10 => Option.bind (some (up3 v10 37 0 3 ((v10 37 0 3) + 1))) (fun v11 => some v11)))))))))) (fun z => IM z ∧ (Int32.toInt (z 37 0 4) = Int32.toInt (v 37 0 4)) ∧ ((Int32.toInt (v 30 0 8) < 0 ∧ Int32.toInt (z 37 0 3) = Int32.toInt (v 37 0 3) + 1) ∨ 0 ≤ Int32.toInt (z 30 0 8))) := by
    intro w131 x1_131 x2_131 x3_131 x4_131 hI_w131 hv0_131 hv1_131 hv2_131 hv3_131 hv4_131
    have : ((w131 36 0 3).toInt = 0 ∧ (w131 36 0 4).toInt = 0) ∨ (0 < (w131 36 0 3).toInt ∧ 0 < (w131 36 0 4).toInt) := hI_w131.2.1
    have : (0 : Int) ≤ (w131 37 0 3).toInt ∧ (w131 37 0 3).toInt ≤ (6 : Int) := hI_w131.1 37 0 3
    have : (0 : Int) ≤ (v 37 0 3).toInt ∧ (v 37 0 3).toInt ≤ (6 : Int) := hI_v.1 37 0 3
    have : (0 : Int) ≤ (w131 37 0 4).toInt ∧ (w131 37 0 4).toInt ≤ (4 : Int) := hI_w131.1 37 0 4
    have : (0 : Int) ≤ (v 37 0 4).toInt ∧ (v 37 0 4).toInt ≤ (4 : Int) := hI_v.1 37 0 4
    have : (-1 : Int) ≤ (v 30 0 8).toInt ∧ (v 30 0 8).toInt ≤ (100 : Int) := hI_v.1 30 0 8
    have : (-1 : Int) ≤ (w131 30 0 8).toInt ∧ (w131 30 0 8).toInt ≤ (100 : Int) := hI_w131.1 30 0 8
    refine ok_bind (k_X8_isWell w131 hI_w131  ) (fun r13 hr13 => ?_)
    have hr13 : (0 : Int) ≤ Int32.toInt r13 ∧ Int32.toInt r13 ≤ (1 : Int) ∧ ((Int32.toInt r13 = 0 ∧ 0 ≤ Int32.toInt (w131 30 0 8)) ∨ (Int32.toInt r13 = 1 ∧ Int32.toInt (w131 30 0 8) < 0)) := hr13
    have : (-1 : Int) ≤ (w131 30 0 8).toInt ∧ (w131 30 0 8).toInt ≤ (100 : Int) := hI_w131.1 30 0 8
    refine ok_ite _ (fun c15 => ?_) (fun c15 => ?_)
    · skip
      have ic15 := i_eq c15
      have : (0 : Int32).toInt = 0 := (by decide)
      refine ok_some ?_
      show IM w131 ∧ (Int32.toInt (w131 37 0 4) = Int32.toInt (v 37 0 4)) ∧ ((Int32.toInt (v 30 0 8) < 0 ∧ Int32.toInt (w131 37 0 3) = Int32.toInt (v 37 0 3) + 1) ∨ 0 ≤ Int32.toInt (w131 30 0 8))
      refine ⟨hI_w131, ?_⟩
      omega
    · skip
      have ic15 := i_ne c15
      have : (0 : Int32).toInt = 0 := (by decide)
      refine ok_grd _ ?_ ?_
      · skip
        exact gr (by omega) (by omega)
      refine ok_let (fun v17 ev17 => ?_)
      have hI_v17 : IM v17 := by
        rw [ev17]
        first | exact hI_w131.um7 (by omega) (by omega) | exact hI_w131.u07
      have := i_eq (show v17 30 0 8 = w131 30 0 8 by rw [ev17]; exact up3_t (by decide))
      have := i_eq (show v17 30 0 11 = w131 30 0 11 by rw [ev17]; exact up3_t (by decide))
      have := i_eq (show v17 30 0 12 = w131 30 0 12 by rw [ev17]; exact up3_t (by decide))
      (try have := i_eq (show v17 37 0 3 = w131 37 0 3 by rw [ev17]; exact up3_j (tcne (by omega) (by omega))))
      (try have := i_eq (show v17 37 0 4 = w131 37 0 4 by rw [ev17]; exact up3_j (tcne (by omega) (by omega))))
      have : ((v17 36 0 3).toInt = 0 ∧ (v17 36 0 4).toInt = 0) ∨ (0 < (v17 36 0 3).toInt ∧ 0 < (v17 36 0 4).toInt) := hI_v17.2.1
      refine ok_grd _ ?_ ?_
      · skip
        have : (1 : Int32).toInt = 1 := (by decide)
        have := i_bd x1_131
        (first | have := sp_addx x1_131 (1 : Int32) (by omega) | obtain ⟨k7, hk7⟩ := sp_add x1_131 (1 : Int32))
        exact gr (by omega) (by omega)
      refine ok_let (fun v19 ev19 => ?_)
      have : (1 : Int32).toInt = 1 := (by decide)
      have := i_bd x1_131
      (first | have := sp_addx x1_131 (1 : Int32) (by omega) | obtain ⟨k8, hk8⟩ := sp_add x1_131 (1 : Int32))
      have hI_v19 : IM v19 := by
        rw [ev19]
        first | exact hI_v17.um7 (by omega) (by omega) | exact hI_v17.u07
      have := i_eq (show v19 30 0 8 = v17 30 0 8 by rw [ev19]; exact up3_t (by decide))
      have := i_eq (show v19 30 0 11 = v17 30 0 11 by rw [ev19]; exact up3_t (by decide))
      have := i_eq (show v19 30 0 12 = v17 30 0 12 by rw [ev19]; exact up3_t (by decide))
      (try have := i_eq (show v19 37 0 3 = v17 37 0 3 by rw [ev19]; exact up3_j (tcne (by omega) (by omega))))
      (try have := i_eq (show v19 37 0 4 = v17 37 0 4 by rw [ev19]; exact up3_j (tcne (by omega) (by omega))))
      have : ((v19 36 0 3).toInt = 0 ∧ (v19 36 0 4).toInt = 0) ∨ (0 < (v19 36 0 3).toInt ∧ 0 < (v19 36 0 4).toInt) := hI_v19.2.1
      refine ok_grd _ ?_ ?_
      · skip
        have : (2 : Int32).toInt = 2 := (by decide)
        have := i_bd x1_131
        (first | have := sp_addx x1_131 (2 : Int32) (by omega) | obtain ⟨k9, hk9⟩ := sp_add x1_131 (2 : Int32))
        exact gr (by omega) (by omega)
      refine ok_let (fun v21 ev21 => ?_)
      have : (2 : Int32).toInt = 2 := (by decide)
      have := i_bd x1_131
      (first | have := sp_addx x1_131 (2 : Int32) (by omega) | obtain ⟨k10, hk10⟩ := sp_add x1_131 (2 : Int32))
      have hI_v21 : IM v21 := by
        rw [ev21]
        first | exact hI_v19.um7 (by omega) (by omega) | exact hI_v19.u07
      have := i_eq (show v21 30 0 8 = v19 30 0 8 by rw [ev21]; exact up3_t (by decide))
      have := i_eq (show v21 30 0 11 = v19 30 0 11 by rw [ev21]; exact up3_t (by decide))
      have := i_eq (show v21 30 0 12 = v19 30 0 12 by rw [ev21]; exact up3_t (by decide))
      (try have := i_eq (show v21 37 0 3 = v19 37 0 3 by rw [ev21]; exact up3_j (tcne (by omega) (by omega))))
      (try have := i_eq (show v21 37 0 4 = v19 37 0 4 by rw [ev21]; exact up3_j (tcne (by omega) (by omega))))
      have : ((v21 36 0 3).toInt = 0 ∧ (v21 36 0 4).toInt = 0) ∨ (0 < (v21 36 0 3).toInt ∧ 0 < (v21 36 0 4).toInt) := hI_v21.2.1
      refine ok_let (fun v22 ev22 => ?_)
      have hI_v22 : IM v22 := by
        rw [ev22]
        refine hI_v21.upo (by decide) ?_
        show (0 : Int) ≤ Int32.toInt ((v21 37 0 3) + 1) ∧ Int32.toInt ((v21 37 0 3) + 1) ≤ (6 : Int)
        have : (0 : Int) ≤ (v21 37 0 3).toInt ∧ (v21 37 0 3).toInt ≤ (6 : Int) := hI_v21.1 37 0 3
        have : (1 : Int32).toInt = 1 := (by decide)
        have := i_bd (v21 37 0 3)
        (first | have := sp_addx (v21 37 0 3) (1 : Int32) (by omega) | obtain ⟨k11, hk11⟩ := sp_add (v21 37 0 3) (1 : Int32))
        omega
      have := i_eq (show v22 30 0 8 = v21 30 0 8 by rw [ev22]; exact up3_t (by decide))
      have := i_eq (show v22 30 0 11 = v21 30 0 11 by rw [ev22]; exact up3_t (by decide))
      have := i_eq (show v22 30 0 12 = v21 30 0 12 by rw [ev22]; exact up3_t (by decide))
      have := i_eq (show v22 37 0 3 = ((v21 37 0 3) + 1) by rw [ev22]; exact up3_s)
      have : (0 : Int) ≤ (v21 37 0 3).toInt ∧ (v21 37 0 3).toInt ≤ (6 : Int) := hI_v21.1 37 0 3
      have : (1 : Int32).toInt = 1 := (by decide)
      have := i_bd (v21 37 0 3)
      (first | have := sp_addx (v21 37 0 3) (1 : Int32) (by omega) | obtain ⟨k12, hk12⟩ := sp_add (v21 37 0 3) (1 : Int32))
      have := i_eq (show v22 37 0 4 = v21 37 0 4 by rw [ev22]; exact up3_j (by decide))
      have : ((v22 36 0 3).toInt = 0 ∧ (v22 36 0 4).toInt = 0) ∨ (0 < (v22 36 0 3).toInt ∧ 0 < (v22 36 0 4).toInt) := hI_v22.2.1
      refine ok_some ?_
      show IM v22 ∧ (Int32.toInt (v22 37 0 4) = Int32.toInt (v 37 0 4)) ∧ ((Int32.toInt (v 30 0 8) < 0 ∧ Int32.toInt (v22 37 0 3) = Int32.toInt (v 37 0 3) + 1) ∨ 0 ≤ Int32.toInt (v22 30 0 8))
      refine ⟨hI_v22, ?_⟩
      omega
  have join112 : ∀ (w112 : Mm) (x1_112 : Int32) (x2_112 : Int32) (x3_112 : Int32) (x4_112 : Int32), (IM w112) → ((8 : Int) ≤ Int32.toInt x1_112 ∧ Int32.toInt x1_112 ≤ (23 : Int)) → (Int32.toInt (w112 37 0 3) = Int32.toInt (v 37 0 3)) → (Int32.toInt (w112 37 0 4) = Int32.toInt (v 37 0 4)) → (Int32.toInt (v 30 0 8) < 0 ∨ 0 ≤ Int32.toInt (w112 30 0 8)) → (Int32.toInt (v 37 0 3) ≤ 5 ∨ 0 ≤ Int32.toInt (w112 30 0 8)) →  ok (if w112 30 0 11 = 4 then (kb2 (g_X8_takes w112 1 1) (fun r25 v26 => Option.bind (g_X8_isWell v26) (fun r28 => if r28 = 0 then (some v26) else (if x1_112 < 0 ∨ 65 ≤ Int32.toNatClampNeg x1_112 then none else (Option.bind (some (up3 v26 37 0 (Int32.toNatClampNeg x1_112) x2_112)) (fun v32 => if x1_112 + 1 < 0 ∨ 65 ≤ Int32.toNatClampNeg (x1_112 + 1) then none else (Option.bind (some (up3 v32 37 0 (Int32.toNatClampNeg (x1_112 + 1)) x3_112)) (fun v34 => if x1_112 + 2 < 0 ∨ 65 ≤ Int32.toNatClampNeg (x1_112 + 2) then none else (Option.bind (some (up3 v34 37 0 (Int32.toNatClampNeg (x1_112 + 2)) x4_112)) (fun v36 => Option.bind (some (up3 v36 37 0 3 ((v36 37 0 3) + 1))) (fun v37 => some v37))))))))))) else (kb2 (g_X8_takes w112 0 1) (fun r39 v40 => Option.bind (g_X8_isWell v40) (fun r42 => if r42 = 0 then (some v40) else (if x1_112 < 0 ∨ 65 ≤ Int32.toNatClampNeg x1_112 then none else (Option.bind (some (up3 v40 37 0 (Int32.toNatClampNeg x1_112) x2_112)) (fun v46 => if x1_112 + 1 < 0 ∨ 65 ≤ Int32.toNatClampNeg (x1_112 + 1) then none else (Option.bind (some (up3 v46 37 0 (Int32.toNatClampNeg (x1_112 + 1)) x3_112)) (fun v48 => if x1_112 + 2 < 0 ∨ 65 ≤ Int32.toNatClampNeg (x1_112 + 2) then none else (Option.bind (some (up3 v48 37 0 (Int32.toNatClampNeg (x1_112 + 2)) x4_112)) (fun v50 => Option.bind (some (up3 v50 37 0 3 ((v50 37 0 3) + 1))) (fun v51 => some v51)))))))))))) (fun z => IM z ∧ (Int32.toInt (z 37 0 4) = Int32.toInt (v 37 0 4)) ∧ ((Int32.toInt (v 30 0 8) < 0 ∧ Int32.toInt (z 37 0 3) = Int32.toInt (v 37 0 3) + 1) ∨ 0 ≤ Int32.toInt (z 30 0 8))) := by
    intro w112 x1_112 x2_112 x3_112 x4_112 hI_w112 hv0_112 hv1_112 hv2_112 hv3_112 hv4_112
    have : ((w112 36 0 3).toInt = 0 ∧ (w112 36 0 4).toInt = 0) ∨ (0 < (w112 36 0 3).toInt ∧ 0 < (w112 36 0 4).toInt) := hI_w112.2.1
    have : (0 : Int) ≤ (w112 37 0 3).toInt ∧ (w112 37 0 3).toInt ≤ (6 : Int) := hI_w112.1 37 0 3
    have : (0 : Int) ≤ (v 37 0 3).toInt ∧ (v 37 0 3).toInt ≤ (6 : Int) := hI_v.1 37 0 3
    have : (0 : Int) ≤ (w112 37 0 4).toInt ∧ (w112 37 0 4).toInt ≤ (4 : Int) := hI_w112.1 37 0 4
    have : (0 : Int) ≤ (v 37 0 4).toInt ∧ (v 37 0 4).toInt ≤ (4 : Int) := hI_v.1 37 0 4
    have : (-1 : Int) ≤ (v 30 0 8).toInt ∧ (v 30 0 8).toInt ≤ (100 : Int) := hI_v.1 30 0 8
    have : (-1 : Int) ≤ (w112 30 0 8).toInt ∧ (w112 30 0 8).toInt ≤ (100 : Int) := hI_w112.1 30 0 8
    refine ok_ite _ (fun c52 => ?_) (fun c52 => ?_)
    · skip
      have ic52 := i_eq c52
      have : (0 : Int) ≤ (w112 30 0 11).toInt ∧ (w112 30 0 11).toInt ≤ (5 : Int) := hI_w112.1 30 0 11
      have : (4 : Int32).toInt = 4 := (by decide)
      refine ok_kb2 (k_X8_takes w112 hI_w112 1 1 ) (fun r54 v55 hr54 => ?_)
      have hr54 : IM v55 ∧ (Int32.toInt (v55 37 0 3) = Int32.toInt (w112 37 0 3)) ∧ (Int32.toInt (v55 37 0 4) = Int32.toInt (w112 37 0 4)) ∧ (Int32.toInt (w112 30 0 8) < 0 ∨ 0 ≤ Int32.toInt (v55 30 0 8)) ∧ (¬ Int32.toInt 1 = 0 ∨ 0 ≤ Int32.toInt (v55 30 0 8)) ∧ (Int32.toInt r54 = 0 ∨ (Int32.toInt r54 = Int32.toInt (w112 30 0 12) ∧ ¬ Int32.toInt 1 = 0)) := hr54
      obtain ⟨hI_v55, hr54⟩ := hr54
      have : ((v55 36 0 3).toInt = 0 ∧ (v55 36 0 4).toInt = 0) ∨ (0 < (v55 36 0 3).toInt ∧ 0 < (v55 36 0 4).toInt) := hI_v55.2.1
      have : (0 : Int) ≤ (w112 37 0 3).toInt ∧ (w112 37 0 3).toInt ≤ (6 : Int) := hI_w112.1 37 0 3
      have : (0 : Int) ≤ (w112 37 0 4).toInt ∧ (w112 37 0 4).toInt ≤ (4 : Int) := hI_w112.1 37 0 4
      have : (-1 : Int) ≤ (w112 30 0 8).toInt ∧ (w112 30 0 8).toInt ≤ (100 : Int) := hI_w112.1 30 0 8
      have : (1 : Int32).toInt = 1 := (by decide)
      exact join131 v55 x1_112 x2_112 x3_112 x4_112 hI_v55 (by omega) (by omega) (by omega) (by omega) (by omega)
    · skip
      have ic52 := i_ne c52
      have : (0 : Int) ≤ (w112 30 0 11).toInt ∧ (w112 30 0 11).toInt ≤ (5 : Int) := hI_w112.1 30 0 11
      have : (4 : Int32).toInt = 4 := (by decide)
      refine ok_kb2 (k_X8_takes w112 hI_w112 0 1 ) (fun r57 v58 hr57 => ?_)
      have hr57 : IM v58 ∧ (Int32.toInt (v58 37 0 3) = Int32.toInt (w112 37 0 3)) ∧ (Int32.toInt (v58 37 0 4) = Int32.toInt (w112 37 0 4)) ∧ (Int32.toInt (w112 30 0 8) < 0 ∨ 0 ≤ Int32.toInt (v58 30 0 8)) ∧ (¬ Int32.toInt 0 = 0 ∨ 0 ≤ Int32.toInt (v58 30 0 8)) ∧ (Int32.toInt r57 = 0 ∨ (Int32.toInt r57 = Int32.toInt (w112 30 0 12) ∧ ¬ Int32.toInt 0 = 0)) := hr57
      obtain ⟨hI_v58, hr57⟩ := hr57
      have : ((v58 36 0 3).toInt = 0 ∧ (v58 36 0 4).toInt = 0) ∨ (0 < (v58 36 0 3).toInt ∧ 0 < (v58 36 0 4).toInt) := hI_v58.2.1
      have : (0 : Int) ≤ (w112 37 0 3).toInt ∧ (w112 37 0 3).toInt ≤ (6 : Int) := hI_w112.1 37 0 3
      have : (0 : Int) ≤ (w112 37 0 4).toInt ∧ (w112 37 0 4).toInt ≤ (4 : Int) := hI_w112.1 37 0 4
      have : (-1 : Int) ≤ (w112 30 0 8).toInt ∧ (w112 30 0 8).toInt ≤ (100 : Int) := hI_w112.1 30 0 8
      have : (0 : Int32).toInt = 0 := (by decide)
      have : (1 : Int32).toInt = 1 := (by decide)
      exact join131 v58 x1_112 x2_112 x3_112 x4_112 hI_v58 (by omega) (by omega) (by omega) (by omega) (by omega)
  have join81 : ∀ (w81 : Mm) (x1_81 : Int32) (x2_81 : Int32) (x3_81 : Int32), (IM w81) → ((8 : Int) ≤ Int32.toInt x1_81 ∧ Int32.toInt x1_81 ≤ (23 : Int)) → (Int32.toInt (w81 37 0 3) = Int32.toInt (v 37 0 3)) → (Int32.toInt (w81 37 0 4) = Int32.toInt (v 37 0 4)) → (Int32.toInt (v 30 0 8) < 0 ∨ 0 ≤ Int32.toInt (w81 30 0 8)) → (Int32.toInt (v 37 0 3) ≤ 5 ∨ 0 ≤ Int32.toInt (w81 30 0 8)) →  ok (Option.bind (g_X8_isTold w81 x2_81 x3_81 ((w81 30 0 12) - 97)) (fun r60 => if r60 = 0 then (kb2 (g_X8_takes w81 1 2) (fun r64 v65 => if v65 30 0 11 = 4 then (kb2 (g_X8_takes v65 1 1) (fun r68 v69 => Option.bind (g_X8_isWell v69) (fun r71 => if r71 = 0 then (some v69) else (if x1_81 < 0 ∨ 65 ≤ Int32.toNatClampNeg x1_81 then none else (Option.bind (some (up3 v69 37 0 (Int32.toNatClampNeg x1_81) x2_81)) (fun v75 => if x1_81 + 1 < 0 ∨ 65 ≤ Int32.toNatClampNeg (x1_81 + 1) then none else (Option.bind (some (up3 v75 37 0 (Int32.toNatClampNeg (x1_81 + 1)) x3_81)) (fun v77 => if x1_81 + 2 < 0 ∨ 65 ≤ Int32.toNatClampNeg (x1_81 + 2) then none else (Option.bind (some (up3 v77 37 0 (Int32.toNatClampNeg (x1_81 + 2)) (r64 - 97))) (fun v79 => Option.bind (some (up3 v79 37 0 3 ((v79 37 0 3) + 1))) (fun v80 => some v80))))))))))) else (kb2 (g_X8_takes v65 0 1) (fun r82 v83 => Option.bind (g_X8_isWell v83) (fun r85 => if r85 = 0 then (some v83) else (if x1_81 < 0 ∨ 65 ≤ Int32.toNatClampNeg x1_81 then none else (Option.bind (some (up3 v83 37 0 (Int32.toNatClampNeg x1_81) x2_81)) (fun v89 => if x1_81 + 1 < 0 ∨ 65 ≤ Int32.toNatClampNeg (x1_81 + 1) then none else (Option.bind (some (up3 v89 37 0 (Int32.toNatClampNeg (x1_81 + 1)) x3_81)) (fun v91 => if x1_81 + 2 < 0 ∨ 65 ≤ Int32.toNatClampNeg (x1_81 + 2) then none else (Option.bind (some (up3 v91 37 0 (Int32.toNatClampNeg (x1_81 + 2)) (r64 - 97))) (fun v93 => Option.bind (some (up3 v93 37 0 3 ((v93 37 0 3) + 1))) (fun v94 => some v94))))))))))))) else (kb2 (g_X8_takes w81 0 2) (fun r96 v97 => if v97 30 0 11 = 4 then (kb2 (g_X8_takes v97 1 1) (fun r100 v101 => Option.bind (g_X8_isWell v101) (fun r103 => if r103 = 0 then (some v101) else (if x1_81 < 0 ∨ 65 ≤ Int32.toNatClampNeg x1_81 then none else (Option.bind (some (up3 v101 37 0 (Int32.toNatClampNeg x1_81) x2_81)) (fun v107 => if x1_81 + 1 < 0 ∨ 65 ≤ Int32.toNatClampNeg (x1_81 + 1) then none else (Option.bind (some (up3 v107 37 0 (Int32.toNatClampNeg (x1_81 + 1)) x3_81)) (fun v109 => if x1_81 + 2 < 0 ∨ 65 ≤ Int32.toNatClampNeg (x1_81 + 2) then none else (Option.bind (some (up3 v109 37 0 (Int32.toNatClampNeg (x1_81 + 2)) (r96 - 97))) (fun v111 => Option.bind (some (up3 v111 37 0 3 ((v111 37 0 3) + 1))) (fun v112 => some v112))))))))))) else (kb2 (g_X8_takes v97 0 1) (fun r114 v115 => Option.bind (g_X8_isWell v115) (fun r117 => if r117 = 0 then (some v115) else (if x1_81 < 0 ∨ 65 ≤ Int32.toNatClampNeg x1_81 then none else (Option.bind (some (up3 v115 37 0 (Int32.toNatClampNeg x1_81) x2_81)) (fun v121 => if x1_81 + 1 < 0 ∨ 65 ≤ Int32.toNatClampNeg (x1_81 + 1) then none else (Option.bind (some (up3 v121 37 0 (Int32.toNatClampNeg (x1_81 + 1)) x3_81)) (fun v123 => if x1_81 + 2 < 0 ∨ 65 ≤ Int32.toNatClampNeg (x1_81 + 2) then none else (Option.bind (some (up3 v123 37 0 (Int32.toNatClampNeg (x1_81 + 2)) (r96 - 97))) (fun v125 => Option.bind (some (up3 v125 37 0 3 ((v125 37 0 3) + 1))) (fun v126 => some v126))))))))))))))) (fun z => IM z ∧ (Int32.toInt (z 37 0 4) = Int32.toInt (v 37 0 4)) ∧ ((Int32.toInt (v 30 0 8) < 0 ∧ Int32.toInt (z 37 0 3) = Int32.toInt (v 37 0 3) + 1) ∨ 0 ≤ Int32.toInt (z 30 0 8))) := by
    intro w81 x1_81 x2_81 x3_81 hI_w81 hv0_81 hv1_81 hv2_81 hv3_81 hv4_81
    have : ((w81 36 0 3).toInt = 0 ∧ (w81 36 0 4).toInt = 0) ∨ (0 < (w81 36 0 3).toInt ∧ 0 < (w81 36 0 4).toInt) := hI_w81.2.1
    have : (0 : Int) ≤ (w81 37 0 3).toInt ∧ (w81 37 0 3).toInt ≤ (6 : Int) := hI_w81.1 37 0 3
    have : (0 : Int) ≤ (v 37 0 3).toInt ∧ (v 37 0 3).toInt ≤ (6 : Int) := hI_v.1 37 0 3
    have : (0 : Int) ≤ (w81 37 0 4).toInt ∧ (w81 37 0 4).toInt ≤ (4 : Int) := hI_w81.1 37 0 4
    have : (0 : Int) ≤ (v 37 0 4).toInt ∧ (v 37 0 4).toInt ≤ (4 : Int) := hI_v.1 37 0 4
    have : (-1 : Int) ≤ (v 30 0 8).toInt ∧ (v 30 0 8).toInt ≤ (100 : Int) := hI_v.1 30 0 8
    have : (-1 : Int) ≤ (w81 30 0 8).toInt ∧ (w81 30 0 8).toInt ≤ (100 : Int) := hI_w81.1 30 0 8
    refine ok_bind (k_X8_isTold w81 hI_w81 x2_81 x3_81 ((w81 30 0 12) - 97) ) (fun r128 hr128 => ?_)
    have hr128 : (0 : Int) ≤ Int32.toInt r128 ∧ Int32.toInt r128 ≤ (1 : Int) := hr128
    refine ok_ite _ (fun c130 => ?_) (fun c130 => ?_)
    · skip
      have ic130 := i_eq c130
      have : (0 : Int32).toInt = 0 := (by decide)
      refine ok_kb2 (k_X8_takes w81 hI_w81 1 2 ) (fun r132 v133 hr132 => ?_)
      have hr132 : IM v133 ∧ (Int32.toInt (v133 37 0 3) = Int32.toInt (w81 37 0 3)) ∧ (Int32.toInt (v133 37 0 4) = Int32.toInt (w81 37 0 4)) ∧ (Int32.toInt (w81 30 0 8) < 0 ∨ 0 ≤ Int32.toInt (v133 30 0 8)) ∧ (¬ Int32.toInt 1 = 0 ∨ 0 ≤ Int32.toInt (v133 30 0 8)) ∧ (Int32.toInt r132 = 0 ∨ (Int32.toInt r132 = Int32.toInt (w81 30 0 12) ∧ ¬ Int32.toInt 1 = 0)) := hr132
      obtain ⟨hI_v133, hr132⟩ := hr132
      have : ((v133 36 0 3).toInt = 0 ∧ (v133 36 0 4).toInt = 0) ∨ (0 < (v133 36 0 3).toInt ∧ 0 < (v133 36 0 4).toInt) := hI_v133.2.1
      have : (0 : Int) ≤ (w81 37 0 3).toInt ∧ (w81 37 0 3).toInt ≤ (6 : Int) := hI_w81.1 37 0 3
      have : (0 : Int) ≤ (w81 37 0 4).toInt ∧ (w81 37 0 4).toInt ≤ (4 : Int) := hI_w81.1 37 0 4
      have : (-1 : Int) ≤ (w81 30 0 8).toInt ∧ (w81 30 0 8).toInt ≤ (100 : Int) := hI_w81.1 30 0 8
      have : (1 : Int32).toInt = 1 := (by decide)
      have : (2 : Int32).toInt = 2 := (by decide)
      have : (97 : Int32).toInt = 97 := (by decide)
      have := i_bd r132
      (first | have := sp_subx r132 (97 : Int32) (by omega) | obtain ⟨k53, hk53⟩ := sp_sub r132 (97 : Int32))
      exact join112 v133 x1_81 x2_81 x3_81 (r132 - 97) hI_v133 (by omega) (by omega) (by omega) (by omega) (by omega)
    · skip
      have ic130 := i_ne c130
      have : (0 : Int32).toInt = 0 := (by decide)
      refine ok_kb2 (k_X8_takes w81 hI_w81 0 2 ) (fun r135 v136 hr135 => ?_)
      have hr135 : IM v136 ∧ (Int32.toInt (v136 37 0 3) = Int32.toInt (w81 37 0 3)) ∧ (Int32.toInt (v136 37 0 4) = Int32.toInt (w81 37 0 4)) ∧ (Int32.toInt (w81 30 0 8) < 0 ∨ 0 ≤ Int32.toInt (v136 30 0 8)) ∧ (¬ Int32.toInt 0 = 0 ∨ 0 ≤ Int32.toInt (v136 30 0 8)) ∧ (Int32.toInt r135 = 0 ∨ (Int32.toInt r135 = Int32.toInt (w81 30 0 12) ∧ ¬ Int32.toInt 0 = 0)) := hr135
      obtain ⟨hI_v136, hr135⟩ := hr135
      have : ((v136 36 0 3).toInt = 0 ∧ (v136 36 0 4).toInt = 0) ∨ (0 < (v136 36 0 3).toInt ∧ 0 < (v136 36 0 4).toInt) := hI_v136.2.1
      have : (0 : Int) ≤ (w81 37 0 3).toInt ∧ (w81 37 0 3).toInt ≤ (6 : Int) := hI_w81.1 37 0 3
      have : (0 : Int) ≤ (w81 37 0 4).toInt ∧ (w81 37 0 4).toInt ≤ (4 : Int) := hI_w81.1 37 0 4
      have : (-1 : Int) ≤ (w81 30 0 8).toInt ∧ (w81 30 0 8).toInt ≤ (100 : Int) := hI_w81.1 30 0 8
      have : (0 : Int32).toInt = 0 := (by decide)
      have : (2 : Int32).toInt = 2 := (by decide)
      have : (97 : Int32).toInt = 97 := (by decide)
      have := i_bd r135
      (first | have := sp_subx r135 (97 : Int32) (by omega) | obtain ⟨k54, hk54⟩ := sp_sub r135 (97 : Int32))
      exact join112 v136 x1_81 x2_81 x3_81 (r135 - 97) hI_v136 (by omega) (by omega) (by omega) (by omega) (by omega)
  have join49 : ∀ (w49 : Mm) (x1_49 : Int32), (IM w49) → ((8 : Int) ≤ Int32.toInt x1_49 ∧ Int32.toInt x1_49 ≤ (23 : Int)) → (Int32.toInt (w49 37 0 3) = Int32.toInt (v 37 0 3)) → (Int32.toInt (w49 37 0 4) = Int32.toInt (v 37 0 4)) → (Int32.toInt (v 30 0 8) < 0 ∨ 0 ≤ Int32.toInt (w49 30 0 8)) → (Int32.toInt (v 37 0 3) ≤ 5 ∨ 0 ≤ Int32.toInt (w49 30 0 8)) →  ok (kb2 (g_X8_letterOf w49) (fun r138 v139 => kb2 (g_X8_letterOf v139) (fun r141 v142 => Option.bind (g_X8_isWell v142) (fun r144 => if r144 = 0 then (Option.bind (g_X8_isTold v142 r138 r141 ((v142 30 0 12) - 97)) (fun r148 => if r148 = 0 then (kb2 (g_X8_takes v142 1 2) (fun r152 v153 => if v153 30 0 11 = 4 then (kb2 (g_X8_takes v153 1 1) (fun r156 v157 => Option.bind (g_X8_isWell v157) (fun r159 => if r159 = 0 then (some v157) else (if x1_49 < 0 ∨ 65 ≤ Int32.toNatClampNeg x1_49 then none else (Option.bind (some (up3 v157 37 0 (Int32.toNatClampNeg x1_49) r138)) (fun v163 => if x1_49 + 1 < 0 ∨ 65 ≤ Int32.toNatClampNeg (x1_49 + 1) then none else (Option.bind (some (up3 v163 37 0 (Int32.toNatClampNeg (x1_49 + 1)) r141)) (fun v165 => if x1_49 + 2 < 0 ∨ 65 ≤ Int32.toNatClampNeg (x1_49 + 2) then none else (Option.bind (some (up3 v165 37 0 (Int32.toNatClampNeg (x1_49 + 2)) (r152 - 97))) (fun v167 => Option.bind (some (up3 v167 37 0 3 ((v167 37 0 3) + 1))) (fun v168 => some v168))))))))))) else (kb2 (g_X8_takes v153 0 1) (fun r170 v171 => Option.bind (g_X8_isWell v171) (fun r173 => if r173 = 0 then (some v171) else (if x1_49 < 0 ∨ 65 ≤ Int32.toNatClampNeg x1_49 then none else (Option.bind (some (up3 v171 37 0 (Int32.toNatClampNeg x1_49) r138)) (fun v177 => if x1_49 + 1 < 0 ∨ 65 ≤ Int32.toNatClampNeg (x1_49 + 1) then none else (Option.bind (some (up3 v177 37 0 (Int32.toNatClampNeg (x1_49 + 1)) r141)) (fun v179 => if x1_49 + 2 < 0 ∨ 65 ≤ Int32.toNatClampNeg (x1_49 + 2) then none else (Option.bind (some (up3 v179 37 0 (Int32.toNatClampNeg (x1_49 + 2)) (r152 - 97))) (fun v181 => Option.bind (some (up3 v181 37 0 3 ((v181 37 0 3) + 1))) (fun v182 => some v182))))))))))))) else (kb2 (g_X8_takes v142 0 2) (fun r184 v185 => if v185 30 0 11 = 4 then (kb2 (g_X8_takes v185 1 1) (fun r188 v189 => Option.bind (g_X8_isWell v189) (fun r191 => if r191 = 0 then (some v189) else (if x1_49 < 0 ∨ 65 ≤ Int32.toNatClampNeg x1_49 then none else (Option.bind (some (up3 v189 37 0 (Int32.toNatClampNeg x1_49) r138)) (fun v195 => if x1_49 + 1 < 0 ∨ 65 ≤ Int32.toNatClampNeg (x1_49 + 1) then none else (Option.bind (some (up3 v195 37 0 (Int32.toNatClampNeg (x1_49 + 1)) r141)) (fun v197 => if x1_49 + 2 < 0 ∨ 65 ≤ Int32.toNatClampNeg (x1_49 + 2) then none else (Option.bind (some (up3 v197 37 0 (Int32.toNatClampNeg (x1_49 + 2)) (r184 - 97))) (fun v199 => Option.bind (some (up3 v199 37 0 3 ((v199 37 0 3) + 1))) (fun v200 => some v200))))))))))) else (kb2 (g_X8_takes v185 0 1) (fun r202 v203 => Option.bind (g_X8_isWell v203) (fun r205 => if r205 = 0 then (some v203) else (if x1_49 < 0 ∨ 65 ≤ Int32.toNatClampNeg x1_49 then none else (Option.bind (some (up3 v203 37 0 (Int32.toNatClampNeg x1_49) r138)) (fun v209 => if x1_49 + 1 < 0 ∨ 65 ≤ Int32.toNatClampNeg (x1_49 + 1) then none else (Option.bind (some (up3 v209 37 0 (Int32.toNatClampNeg (x1_49 + 1)) r141)) (fun v211 => if x1_49 + 2 < 0 ∨ 65 ≤ Int32.toNatClampNeg (x1_49 + 2) then none else (Option.bind (some (up3 v211 37 0 (Int32.toNatClampNeg (x1_49 + 2)) (r184 - 97))) (fun v213 => Option.bind (some (up3 v213 37 0 3 ((v213 37 0 3) + 1))) (fun v214 => some v214))))))))))))))) else (if v142 30 0 11 = 1 then (Option.bind (g_X8_isTold v142 r138 r141 ((v142 30 0 12) - 97)) (fun r217 => if r217 = 0 then (kb2 (g_X8_takes v142 1 2) (fun r221 v222 => if v222 30 0 11 = 4 then (kb2 (g_X8_takes v222 1 1) (fun r225 v226 => Option.bind (g_X8_isWell v226) (fun r228 => if r228 = 0 then (some v226) else (if x1_49 < 0 ∨ 65 ≤ Int32.toNatClampNeg x1_49 then none else (Option.bind (some (up3 v226 37 0 (Int32.toNatClampNeg x1_49) r138)) (fun v232 => if x1_49 + 1 < 0 ∨ 65 ≤ Int32.toNatClampNeg (x1_49 + 1) then none else (Option.bind (some (up3 v232 37 0 (Int32.toNatClampNeg (x1_49 + 1)) r141)) (fun v234 => if x1_49 + 2 < 0 ∨ 65 ≤ Int32.toNatClampNeg (x1_49 + 2) then none else (Option.bind (some (up3 v234 37 0 (Int32.toNatClampNeg (x1_49 + 2)) (r221 - 97))) (fun v236 => Option.bind (some (up3 v236 37 0 3 ((v236 37 0 3) + 1))) (fun v237 => some v237))))))))))) else (kb2 (g_X8_takes v222 0 1) (fun r239 v240 => Option.bind (g_X8_isWell v240) (fun r242 => if r242 = 0 then (some v240) else (if x1_49 < 0 ∨ 65 ≤ Int32.toNatClampNeg x1_49 then none else (Option.bind (some (up3 v240 37 0 (Int32.toNatClampNeg x1_49) r138)) (fun v246 => if x1_49 + 1 < 0 ∨ 65 ≤ Int32.toNatClampNeg (x1_49 + 1) then none else (Option.bind (some (up3 v246 37 0 (Int32.toNatClampNeg (x1_49 + 1)) r141)) (fun v248 => if x1_49 + 2 < 0 ∨ 65 ≤ Int32.toNatClampNeg (x1_49 + 2) then none else (Option.bind (some (up3 v248 37 0 (Int32.toNatClampNeg (x1_49 + 2)) (r221 - 97))) (fun v250 => Option.bind (some (up3 v250 37 0 3 ((v250 37 0 3) + 1))) (fun v251 => some v251))))))))))))) else (kb2 (g_X8_takes v142 0 2) (fun r253 v254 => if v254 30 0 11 = 4 then (kb2 (g_X8_takes v254 1 1) (fun r257 v258 => Option.bind (g_X8_isWell v258) (fun r260 => if r260 = 0 then (some v258) else (if x1_49 < 0 ∨ 65 ≤ Int32.toNatClampNeg x1_49 then none else (Option.bind (some (up3 v258 37 0 (Int32.toNatClampNeg x1_49) r138)) (fun v264 => if x1_49 + 1 < 0 ∨ 65 ≤ Int32.toNatClampNeg (x1_49 + 1) then none else (Option.bind (some (up3 v264 37 0 (Int32.toNatClampNeg (x1_49 + 1)) r141)) (fun v266 => if x1_49 + 2 < 0 ∨ 65 ≤ Int32.toNatClampNeg (x1_49 + 2) then none else (Option.bind (some (up3 v266 37 0 (Int32.toNatClampNeg (x1_49 + 2)) (r253 - 97))) (fun v268 => Option.bind (some (up3 v268 37 0 3 ((v268 37 0 3) + 1))) (fun v269 => some v269))))))))))) else (kb2 (g_X8_takes v254 0 1) (fun r271 v272 => Option.bind (g_X8_isWell v272) (fun r274 => if r274 = 0 then (some v272) else (if x1_49 < 0 ∨ 65 ≤ Int32.toNatClampNeg x1_49 then none else (Option.bind (some (up3 v272 37 0 (Int32.toNatClampNeg x1_49) r138)) (fun v278 => if x1_49 + 1 < 0 ∨ 65 ≤ Int32.toNatClampNeg (x1_49 + 1) then none else (Option.bind (some (up3 v278 37 0 (Int32.toNatClampNeg (x1_49 + 1)) r141)) (fun v280 => if x1_49 + 2 < 0 ∨ 65 ≤ Int32.toNatClampNeg (x1_49 + 2) then none else (Option.bind (some (up3 v280 37 0 (Int32.toNatClampNeg (x1_49 + 2)) (r253 - 97))) (fun v282 => Option.bind (some (up3 v282 37 0 3 ((v282 37 0 3) + 1))) (fun v283 => some v283))))))))))))))) else (kb2 (g_X8_takes v142 0 1) (fun r285 v286 => Option.bind (g_X8_isTold v286 r138 r141 ((v286 30 0 12) - 97)) (fun r288 => if r288 = 0 then (kb2 (g_X8_takes v286 1 2) (fun r292 v293 => if v293 30 0 11 = 4 then (kb2 (g_X8_takes v293 1 1) (fun r296 v297 => Option.bind (g_X8_isWell v297) (fun r299 => if r299 = 0 then (some v297) else (if x1_49 < 0 ∨ 65 ≤ Int32.toNatClampNeg x1_49 then none else (Option.bind (some (up3 v297 37 0 (Int32.toNatClampNeg x1_49) r138)) (fun v303 => if x1_49 + 1 < 0 ∨ 65 ≤ Int32.toNatClampNeg (x1_49 + 1) then none else (Option.bind (some (up3 v303 37 0 (Int32.toNatClampNeg (x1_49 + 1)) r141)) (fun v305 => if x1_49 + 2 < 0 ∨ 65 ≤ Int32.toNatClampNeg (x1_49 + 2) then none else (Option.bind (some (up3 v305 37 0 (Int32.toNatClampNeg (x1_49 + 2)) (r292 - 97))) (fun v307 => Option.bind (some (up3 v307 37 0 3 ((v307 37 0 3) + 1))) (fun v308 => some v308))))))))))) else (kb2 (g_X8_takes v293 0 1) (fun r310 v311 => Option.bind (g_X8_isWell v311) (fun r313 => if r313 = 0 then (some v311) else (if x1_49 < 0 ∨ 65 ≤ Int32.toNatClampNeg x1_49 then none else (Option.bind (some (up3 v311 37 0 (Int32.toNatClampNeg x1_49) r138)) (fun v317 => if x1_49 + 1 < 0 ∨ 65 ≤ Int32.toNatClampNeg (x1_49 + 1) then none else (Option.bind (some (up3 v317 37 0 (Int32.toNatClampNeg (x1_49 + 1)) r141)) (fun v319 => if x1_49 + 2 < 0 ∨ 65 ≤ Int32.toNatClampNeg (x1_49 + 2) then none else (Option.bind (some (up3 v319 37 0 (Int32.toNatClampNeg (x1_49 + 2)) (r292 - 97))) (fun v321 => Option.bind (some (up3 v321 37 0 3 ((v321 37 0 3) + 1))) (fun v322 => some v322))))))))))))) else (kb2 (g_X8_takes v286 0 2) (fun r324 v325 => if v325 30 0 11 = 4 then (kb2 (g_X8_takes v325 1 1) (fun r328 v329 => Option.bind (g_X8_isWell v329) (fun r331 => if r331 = 0 then (some v329) else (if x1_49 < 0 ∨ 65 ≤ Int32.toNatClampNeg x1_49 then none else (Option.bind (some (up3 v329 37 0 (Int32.toNatClampNeg x1_49) r138)) (fun v335 => if x1_49 + 1 < 0 ∨ 65 ≤ Int32.toNatClampNeg (x1_49 + 1) then none else (Option.bind (some (up3 v335 37 0 (Int32.toNatClampNeg (x1_49 + 1)) r141)) (fun v337 => if x1_49 + 2 < 0 ∨ 65 ≤ Int32.toNatClampNeg (x1_49 + 2) then none else (Option.bind (some (up3 v337 37 0 (Int32.toNatClampNeg (x1_49 + 2)) (r324 - 97))) (fun v339 => Option.bind (some (up3 v339 37 0 3 ((v339 37 0 3) + 1))) (fun v340 => some v340))))))))))) else (kb2 (g_X8_takes v325 0 1) (fun r342 v343 => Option.bind (g_X8_isWell v343) (fun r345 => if r345 = 0 then (some v343) else (if x1_49 < 0 ∨ 65 ≤ Int32.toNatClampNeg x1_49 then none else (Option.bind (some (up3 v343 37 0 (Int32.toNatClampNeg x1_49) r138)) (fun v349 => if x1_49 + 1 < 0 ∨ 65 ≤ Int32.toNatClampNeg (x1_49 + 1) then none else (Option.bind (some (up3 v349 37 0 (Int32.toNatClampNeg (x1_49 + 1)) r141)) (fun v351 => if x1_49 + 2 < 0 ∨ 65 ≤ Int32.toNatClampNeg (x1_49 + 2) then none else (Option.bind (some (up3 v351 37 0 (Int32.toNatClampNeg (x1_49 + 2)) (r324 - 97))) (fun v353 => Option.bind (some (up3 v353 37 0 3 ((v353 37 0 3) + 1))) (fun v354 => some v354))))))))))))))))))))) (fun z => IM z ∧ (Int32.toInt (z 37 0 4) = Int32.toInt (v 37 0 4)) ∧ ((Int32.toInt (v 30 0 8) < 0 ∧ Int32.toInt (z 37 0 3) = Int32.toInt (v 37 0 3) + 1) ∨ 0 ≤ Int32.toInt (z 30 0 8))) := by
    intro w49 x1_49 hI_w49 hv0_49 hv1_49 hv2_49 hv3_49 hv4_49
    have : ((w49 36 0 3).toInt = 0 ∧ (w49 36 0 4).toInt = 0) ∨ (0 < (w49 36 0 3).toInt ∧ 0 < (w49 36 0 4).toInt) := hI_w49.2.1
    have : (0 : Int) ≤ (w49 37 0 3).toInt ∧ (w49 37 0 3).toInt ≤ (6 : Int) := hI_w49.1 37 0 3
    have : (0 : Int) ≤ (v 37 0 3).toInt ∧ (v 37 0 3).toInt ≤ (6 : Int) := hI_v.1 37 0 3
    have : (0 : Int) ≤ (w49 37 0 4).toInt ∧ (w49 37 0 4).toInt ≤ (4 : Int) := hI_w49.1 37 0 4
    have : (0 : Int) ≤ (v 37 0 4).toInt ∧ (v 37 0 4).toInt ≤ (4 : Int) := hI_v.1 37 0 4
    have : (-1 : Int) ≤ (v 30 0 8).toInt ∧ (v 30 0 8).toInt ≤ (100 : Int) := hI_v.1 30 0 8
    have : (-1 : Int) ≤ (w49 30 0 8).toInt ∧ (w49 30 0 8).toInt ≤ (100 : Int) := hI_w49.1 30 0 8
    refine ok_kb2 (k_X8_letterOf w49 hI_w49  ) (fun r356 v357 hr356 => ?_)
    have hr356 : IM v357 ∧ (Int32.toInt (v357 37 0 3) = Int32.toInt (w49 37 0 3)) ∧ (Int32.toInt (v357 37 0 4) = Int32.toInt (w49 37 0 4)) ∧ (Int32.toInt (w49 30 0 8) < 0 ∨ 0 ≤ Int32.toInt (v357 30 0 8)) := hr356
    obtain ⟨hI_v357, hr356⟩ := hr356
    have : ((v357 36 0 3).toInt = 0 ∧ (v357 36 0 4).toInt = 0) ∨ (0 < (v357 36 0 3).toInt ∧ 0 < (v357 36 0 4).toInt) := hI_v357.2.1
    have : (0 : Int) ≤ (w49 37 0 3).toInt ∧ (w49 37 0 3).toInt ≤ (6 : Int) := hI_w49.1 37 0 3
    have : (0 : Int) ≤ (w49 37 0 4).toInt ∧ (w49 37 0 4).toInt ≤ (4 : Int) := hI_w49.1 37 0 4
    have : (-1 : Int) ≤ (w49 30 0 8).toInt ∧ (w49 30 0 8).toInt ≤ (100 : Int) := hI_w49.1 30 0 8
    refine ok_kb2 (k_X8_letterOf v357 hI_v357  ) (fun r359 v360 hr359 => ?_)
    have hr359 : IM v360 ∧ (Int32.toInt (v360 37 0 3) = Int32.toInt (v357 37 0 3)) ∧ (Int32.toInt (v360 37 0 4) = Int32.toInt (v357 37 0 4)) ∧ (Int32.toInt (v357 30 0 8) < 0 ∨ 0 ≤ Int32.toInt (v360 30 0 8)) := hr359
    obtain ⟨hI_v360, hr359⟩ := hr359
    have : ((v360 36 0 3).toInt = 0 ∧ (v360 36 0 4).toInt = 0) ∨ (0 < (v360 36 0 3).toInt ∧ 0 < (v360 36 0 4).toInt) := hI_v360.2.1
    have : (0 : Int) ≤ (v357 37 0 3).toInt ∧ (v357 37 0 3).toInt ≤ (6 : Int) := hI_v357.1 37 0 3
    have : (0 : Int) ≤ (v357 37 0 4).toInt ∧ (v357 37 0 4).toInt ≤ (4 : Int) := hI_v357.1 37 0 4
    have : (-1 : Int) ≤ (v357 30 0 8).toInt ∧ (v357 30 0 8).toInt ≤ (100 : Int) := hI_v357.1 30 0 8
    refine ok_bind (k_X8_isWell v360 hI_v360  ) (fun r362 hr362 => ?_)
    have hr362 : (0 : Int) ≤ Int32.toInt r362 ∧ Int32.toInt r362 ≤ (1 : Int) ∧ ((Int32.toInt r362 = 0 ∧ 0 ≤ Int32.toInt (v360 30 0 8)) ∨ (Int32.toInt r362 = 1 ∧ Int32.toInt (v360 30 0 8) < 0)) := hr362
    have : (-1 : Int) ≤ (v360 30 0 8).toInt ∧ (v360 30 0 8).toInt ≤ (100 : Int) := hI_v360.1 30 0 8
    refine ok_ite _ (fun c364 => ?_) (fun c364 => ?_)
    · skip
      have ic364 := i_eq c364
      have : (0 : Int32).toInt = 0 := (by decide)
      exact join81 v360 x1_49 r356 r359 hI_v360 (by omega) (by omega) (by omega) (by omega) (by omega)
    · skip
      have ic364 := i_ne c364
      have : (0 : Int32).toInt = 0 := (by decide)
      refine ok_ite _ (fun c365 => ?_) (fun c365 => ?_)
      · skip
        have ic365 := i_eq c365
        have : (0 : Int) ≤ (v360 30 0 11).toInt ∧ (v360 30 0 11).toInt ≤ (5 : Int) := hI_v360.1 30 0 11
        have : (1 : Int32).toInt = 1 := (by decide)
        exact join81 v360 x1_49 r356 r359 hI_v360 (by omega) (by omega) (by omega) (by omega) (by omega)
      · skip
        have ic365 := i_ne c365
        have : (0 : Int) ≤ (v360 30 0 11).toInt ∧ (v360 30 0 11).toInt ≤ (5 : Int) := hI_v360.1 30 0 11
        have : (1 : Int32).toInt = 1 := (by decide)
        refine ok_kb2 (k_X8_takes v360 hI_v360 0 1 ) (fun r367 v368 hr367 => ?_)
        have hr367 : IM v368 ∧ (Int32.toInt (v368 37 0 3) = Int32.toInt (v360 37 0 3)) ∧ (Int32.toInt (v368 37 0 4) = Int32.toInt (v360 37 0 4)) ∧ (Int32.toInt (v360 30 0 8) < 0 ∨ 0 ≤ Int32.toInt (v368 30 0 8)) ∧ (¬ Int32.toInt 0 = 0 ∨ 0 ≤ Int32.toInt (v368 30 0 8)) ∧ (Int32.toInt r367 = 0 ∨ (Int32.toInt r367 = Int32.toInt (v360 30 0 12) ∧ ¬ Int32.toInt 0 = 0)) := hr367
        obtain ⟨hI_v368, hr367⟩ := hr367
        have : ((v368 36 0 3).toInt = 0 ∧ (v368 36 0 4).toInt = 0) ∨ (0 < (v368 36 0 3).toInt ∧ 0 < (v368 36 0 4).toInt) := hI_v368.2.1
        have : (0 : Int) ≤ (v360 37 0 3).toInt ∧ (v360 37 0 3).toInt ≤ (6 : Int) := hI_v360.1 37 0 3
        have : (0 : Int) ≤ (v360 37 0 4).toInt ∧ (v360 37 0 4).toInt ≤ (4 : Int) := hI_v360.1 37 0 4
        have : (-1 : Int) ≤ (v360 30 0 8).toInt ∧ (v360 30 0 8).toInt ≤ (100 : Int) := hI_v360.1 30 0 8
        have : (0 : Int32).toInt = 0 := (by decide)
        have : (1 : Int32).toInt = 1 := (by decide)
        exact join81 v368 x1_49 r356 r359 hI_v368 (by omega) (by omega) (by omega) (by omega) (by omega)
  have join22 : ∀ (w22 : Mm), (IM w22) → (Int32.toInt (w22 37 0 3) = Int32.toInt (v 37 0 3)) → (Int32.toInt (w22 37 0 4) = Int32.toInt (v 37 0 4)) → (Int32.toInt (v 30 0 8) < 0 ∨ 0 ≤ Int32.toInt (w22 30 0 8)) → (Int32.toInt (v 37 0 3) ≤ 5 ∨ 0 ≤ Int32.toInt (w22 30 0 8)) →  ok (if 6 ≤ w22 37 0 3 then (kb2 (g_X8_letterOf w22) (fun r371 v372 => kb2 (g_X8_letterOf v372) (fun r374 v375 => Option.bind (g_X8_isWell v375) (fun r377 => if r377 = 0 then (Option.bind (g_X8_isTold v375 r371 r374 ((v375 30 0 12) - 97)) (fun r381 => if r381 = 0 then (kb2 (g_X8_takes v375 1 2) (fun r385 v386 => if v386 30 0 11 = 4 then (kb2 (g_X8_takes v386 1 1) (fun r389 v390 => Option.bind (g_X8_isWell v390) (fun r392 => if r392 = 0 then (some v390) else (if (8 : Int32) + ((3 : Int32) * 0) < 0 ∨ 65 ≤ Int32.toNatClampNeg ((8 : Int32) + ((3 : Int32) * 0)) then none else (Option.bind (some (up3 v390 37 0 (Int32.toNatClampNeg ((8 : Int32) + ((3 : Int32) * 0))) r371)) (fun v396 => if ((8 : Int32) + ((3 : Int32) * 0)) + 1 < 0 ∨ 65 ≤ Int32.toNatClampNeg (((8 : Int32) + ((3 : Int32) * 0)) + 1) then none else (Option.bind (some (up3 v396 37 0 (Int32.toNatClampNeg (((8 : Int32) + ((3 : Int32) * 0)) + 1)) r374)) (fun v398 => if ((8 : Int32) + ((3 : Int32) * 0)) + 2 < 0 ∨ 65 ≤ Int32.toNatClampNeg (((8 : Int32) + ((3 : Int32) * 0)) + 2) then none else (Option.bind (some (up3 v398 37 0 (Int32.toNatClampNeg (((8 : Int32) + ((3 : Int32) * 0)) + 2)) (r385 - 97))) (fun v400 => Option.bind (some (up3 v400 37 0 3 ((v400 37 0 3) + 1))) (fun v401 => some v401))))))))))) else (kb2 (g_X8_takes v386 0 1) (fun r403 v404 => Option.bind (g_X8_isWell v404) (fun r406 => if r406 = 0 then (some v404) else (if (8 : Int32) + ((3 : Int32) * 0) < 0 ∨ 65 ≤ Int32.toNatClampNeg ((8 : Int32) + ((3 : Int32) * 0)) then none else (Option.bind (some (up3 v404 37 0 (Int32.toNatClampNeg ((8 : Int32) + ((3 : Int32) * 0))) r371)) (fun v410 => if ((8 : Int32) + ((3 : Int32) * 0)) + 1 < 0 ∨ 65 ≤ Int32.toNatClampNeg (((8 : Int32) + ((3 : Int32) * 0)) + 1) then none else (Option.bind (some (up3 v410 37 0 (Int32.toNatClampNeg (((8 : Int32) + ((3 : Int32) * 0)) + 1)) r374)) (fun v412 => if ((8 : Int32) + ((3 : Int32) * 0)) + 2 < 0 ∨ 65 ≤ Int32.toNatClampNeg (((8 : Int32) + ((3 : Int32) * 0)) + 2) then none else (Option.bind (some (up3 v412 37 0 (Int32.toNatClampNeg (((8 : Int32) + ((3 : Int32) * 0)) + 2)) (r385 - 97))) (fun v414 => Option.bind (some (up3 v414 37 0 3 ((v414 37 0 3) + 1))) (fun v415 => some v415))))))))))))) else (kb2 (g_X8_takes v375 0 2) (fun r417 v418 => if v418 30 0 11 = 4 then (kb2 (g_X8_takes v418 1 1) (fun r421 v422 => Option.bind (g_X8_isWell v422) (fun r424 => if r424 = 0 then (some v422) else (if (8 : Int32) + ((3 : Int32) * 0) < 0 ∨ 65 ≤ Int32.toNatClampNeg ((8 : Int32) + ((3 : Int32) * 0)) then none else (Option.bind (some (up3 v422 37 0 (Int32.toNatClampNeg ((8 : Int32) + ((3 : Int32) * 0))) r371)) (fun v428 => if ((8 : Int32) + ((3 : Int32) * 0)) + 1 < 0 ∨ 65 ≤ Int32.toNatClampNeg (((8 : Int32) + ((3 : Int32) * 0)) + 1) then none else (Option.bind (some (up3 v428 37 0 (Int32.toNatClampNeg (((8 : Int32) + ((3 : Int32) * 0)) + 1)) r374)) (fun v430 => if ((8 : Int32) + ((3 : Int32) * 0)) + 2 < 0 ∨ 65 ≤ Int32.toNatClampNeg (((8 : Int32) + ((3 : Int32) * 0)) + 2) then none else (Option.bind (some (up3 v430 37 0 (Int32.toNatClampNeg (((8 : Int32) + ((3 : Int32) * 0)) + 2)) (r417 - 97))) (fun v432 => Option.bind (some (up3 v432 37 0 3 ((v432 37 0 3) + 1))) (fun v433 => some v433))))))))))) else (kb2 (g_X8_takes v418 0 1) (fun r435 v436 => Option.bind (g_X8_isWell v436) (fun r438 => if r438 = 0 then (some v436) else (if (8 : Int32) + ((3 : Int32) * 0) < 0 ∨ 65 ≤ Int32.toNatClampNeg ((8 : Int32) + ((3 : Int32) * 0)) then none else (Option.bind (some (up3 v436 37 0 (Int32.toNatClampNeg ((8 : Int32) + ((3 : Int32) * 0))) r371)) (fun v442 => if ((8 : Int32) + ((3 : Int32) * 0)) + 1 < 0 ∨ 65 ≤ Int32.toNatClampNeg (((8 : Int32) + ((3 : Int32) * 0)) + 1) then none else (Option.bind (some (up3 v442 37 0 (Int32.toNatClampNeg (((8 : Int32) + ((3 : Int32) * 0)) + 1)) r374)) (fun v444 => if ((8 : Int32) + ((3 : Int32) * 0)) + 2 < 0 ∨ 65 ≤ Int32.toNatClampNeg (((8 : Int32) + ((3 : Int32) * 0)) + 2) then none else (Option.bind (some (up3 v444 37 0 (Int32.toNatClampNeg (((8 : Int32) + ((3 : Int32) * 0)) + 2)) (r417 - 97))) (fun v446 => Option.bind (some (up3 v446 37 0 3 ((v446 37 0 3) + 1))) (fun v447 => some v447))))))))))))))) else (if v375 30 0 11 = 1 then (Option.bind (g_X8_isTold v375 r371 r374 ((v375 30 0 12) - 97)) (fun r450 => if r450 = 0 then (kb2 (g_X8_takes v375 1 2) (fun r454 v455 => if v455 30 0 11 = 4 then (kb2 (g_X8_takes v455 1 1) (fun r458 v459 => Option.bind (g_X8_isWell v459) (fun r461 => if r461 = 0 then (some v459) else (if (8 : Int32) + ((3 : Int32) * 0) < 0 ∨ 65 ≤ Int32.toNatClampNeg ((8 : Int32) + ((3 : Int32) * 0)) then none else (Option.bind (some (up3 v459 37 0 (Int32.toNatClampNeg ((8 : Int32) + ((3 : Int32) * 0))) r371)) (fun v465 => if ((8 : Int32) + ((3 : Int32) * 0)) + 1 < 0 ∨ 65 ≤ Int32.toNatClampNeg (((8 : Int32) + ((3 : Int32) * 0)) + 1) then none else (Option.bind (some (up3 v465 37 0 (Int32.toNatClampNeg (((8 : Int32) + ((3 : Int32) * 0)) + 1)) r374)) (fun v467 => if ((8 : Int32) + ((3 : Int32) * 0)) + 2 < 0 ∨ 65 ≤ Int32.toNatClampNeg (((8 : Int32) + ((3 : Int32) * 0)) + 2) then none else (Option.bind (some (up3 v467 37 0 (Int32.toNatClampNeg (((8 : Int32) + ((3 : Int32) * 0)) + 2)) (r454 - 97))) (fun v469 => Option.bind (some (up3 v469 37 0 3 ((v469 37 0 3) + 1))) (fun v470 => some v470))))))))))) else (kb2 (g_X8_takes v455 0 1) (fun r472 v473 => Option.bind (g_X8_isWell v473) (fun r475 => if r475 = 0 then (some v473) else (if (8 : Int32) + ((3 : Int32) * 0) < 0 ∨ 65 ≤ Int32.toNatClampNeg ((8 : Int32) + ((3 : Int32) * 0)) then none else (Option.bind (some (up3 v473 37 0 (Int32.toNatClampNeg ((8 : Int32) + ((3 : Int32) * 0))) r371)) (fun v479 => if ((8 : Int32) + ((3 : Int32) * 0)) + 1 < 0 ∨ 65 ≤ Int32.toNatClampNeg (((8 : Int32) + ((3 : Int32) * 0)) + 1) then none else (Option.bind (some (up3 v479 37 0 (Int32.toNatClampNeg (((8 : Int32) + ((3 : Int32) * 0)) + 1)) r374)) (fun v481 => if ((8 : Int32) + ((3 : Int32) * 0)) + 2 < 0 ∨ 65 ≤ Int32.toNatClampNeg (((8 : Int32) + ((3 : Int32) * 0)) + 2) then none else (Option.bind (some (up3 v481 37 0 (Int32.toNatClampNeg (((8 : Int32) + ((3 : Int32) * 0)) + 2)) (r454 - 97))) (fun v483 => Option.bind (some (up3 v483 37 0 3 ((v483 37 0 3) + 1))) (fun v484 => some v484))))))))))))) else (kb2 (g_X8_takes v375 0 2) (fun r486 v487 => if v487 30 0 11 = 4 then (kb2 (g_X8_takes v487 1 1) (fun r490 v491 => Option.bind (g_X8_isWell v491) (fun r493 => if r493 = 0 then (some v491) else (if (8 : Int32) + ((3 : Int32) * 0) < 0 ∨ 65 ≤ Int32.toNatClampNeg ((8 : Int32) + ((3 : Int32) * 0)) then none else (Option.bind (some (up3 v491 37 0 (Int32.toNatClampNeg ((8 : Int32) + ((3 : Int32) * 0))) r371)) (fun v497 => if ((8 : Int32) + ((3 : Int32) * 0)) + 1 < 0 ∨ 65 ≤ Int32.toNatClampNeg (((8 : Int32) + ((3 : Int32) * 0)) + 1) then none else (Option.bind (some (up3 v497 37 0 (Int32.toNatClampNeg (((8 : Int32) + ((3 : Int32) * 0)) + 1)) r374)) (fun v499 => if ((8 : Int32) + ((3 : Int32) * 0)) + 2 < 0 ∨ 65 ≤ Int32.toNatClampNeg (((8 : Int32) + ((3 : Int32) * 0)) + 2) then none else (Option.bind (some (up3 v499 37 0 (Int32.toNatClampNeg (((8 : Int32) + ((3 : Int32) * 0)) + 2)) (r486 - 97))) (fun v501 => Option.bind (some (up3 v501 37 0 3 ((v501 37 0 3) + 1))) (fun v502 => some v502))))))))))) else (kb2 (g_X8_takes v487 0 1) (fun r504 v505 => Option.bind (g_X8_isWell v505) (fun r507 => if r507 = 0 then (some v505) else (if (8 : Int32) + ((3 : Int32) * 0) < 0 ∨ 65 ≤ Int32.toNatClampNeg ((8 : Int32) + ((3 : Int32) * 0)) then none else (Option.bind (some (up3 v505 37 0 (Int32.toNatClampNeg ((8 : Int32) + ((3 : Int32) * 0))) r371)) (fun v511 => if ((8 : Int32) + ((3 : Int32) * 0)) + 1 < 0 ∨ 65 ≤ Int32.toNatClampNeg (((8 : Int32) + ((3 : Int32) * 0)) + 1) then none else (Option.bind (some (up3 v511 37 0 (Int32.toNatClampNeg (((8 : Int32) + ((3 : Int32) * 0)) + 1)) r374)) (fun v513 => if ((8 : Int32) + ((3 : Int32) * 0)) + 2 < 0 ∨ 65 ≤ Int32.toNatClampNeg (((8 : Int32) + ((3 : Int32) * 0)) + 2) then none else (Option.bind (some (up3 v513 37 0 (Int32.toNatClampNeg (((8 : Int32) + ((3 : Int32) * 0)) + 2)) (r486 - 97))) (fun v515 => Option.bind (some (up3 v515 37 0 3 ((v515 37 0 3) + 1))) (fun v516 => some v516))))))))))))))) else (kb2 (g_X8_takes v375 0 1) (fun r518 v519 => Option.bind (g_X8_isTold v519 r371 r374 ((v519 30 0 12) - 97)) (fun r521 => if r521 = 0 then (kb2 (g_X8_takes v519 1 2) (fun r525 v526 => if v526 30 0 11 = 4 then (kb2 (g_X8_takes v526 1 1) (fun r529 v530 => Option.bind (g_X8_isWell v530) (fun r532 => if r532 = 0 then (some v530) else (if (8 : Int32) + ((3 : Int32) * 0) < 0 ∨ 65 ≤ Int32.toNatClampNeg ((8 : Int32) + ((3 : Int32) * 0)) then none else (Option.bind (some (up3 v530 37 0 (Int32.toNatClampNeg ((8 : Int32) + ((3 : Int32) * 0))) r371)) (fun v536 => if ((8 : Int32) + ((3 : Int32) * 0)) + 1 < 0 ∨ 65 ≤ Int32.toNatClampNeg (((8 : Int32) + ((3 : Int32) * 0)) + 1) then none else (Option.bind (some (up3 v536 37 0 (Int32.toNatClampNeg (((8 : Int32) + ((3 : Int32) * 0)) + 1)) r374)) (fun v538 => if ((8 : Int32) + ((3 : Int32) * 0)) + 2 < 0 ∨ 65 ≤ Int32.toNatClampNeg (((8 : Int32) + ((3 : Int32) * 0)) + 2) then none else (Option.bind (some (up3 v538 37 0 (Int32.toNatClampNeg (((8 : Int32) + ((3 : Int32) * 0)) + 2)) (r525 - 97))) (fun v540 => Option.bind (some (up3 v540 37 0 3 ((v540 37 0 3) + 1))) (fun v541 => some v541))))))))))) else (kb2 (g_X8_takes v526 0 1) (fun r543 v544 => Option.bind (g_X8_isWell v544) (fun r546 => if r546 = 0 then (some v544) else (if (8 : Int32) + ((3 : Int32) * 0) < 0 ∨ 65 ≤ Int32.toNatClampNeg ((8 : Int32) + ((3 : Int32) * 0)) then none else (Option.bind (some (up3 v544 37 0 (Int32.toNatClampNeg ((8 : Int32) + ((3 : Int32) * 0))) r371)) (fun v550 => if ((8 : Int32) + ((3 : Int32) * 0)) + 1 < 0 ∨ 65 ≤ Int32.toNatClampNeg (((8 : Int32) + ((3 : Int32) * 0)) + 1) then none else (Option.bind (some (up3 v550 37 0 (Int32.toNatClampNeg (((8 : Int32) + ((3 : Int32) * 0)) + 1)) r374)) (fun v552 => if ((8 : Int32) + ((3 : Int32) * 0)) + 2 < 0 ∨ 65 ≤ Int32.toNatClampNeg (((8 : Int32) + ((3 : Int32) * 0)) + 2) then none else (Option.bind (some (up3 v552 37 0 (Int32.toNatClampNeg (((8 : Int32) + ((3 : Int32) * 0)) + 2)) (r525 - 97))) (fun v554 => Option.bind (some (up3 v554 37 0 3 ((v554 37 0 3) + 1))) (fun v555 => some v555))))))))))))) else (kb2 (g_X8_takes v519 0 2) (fun r557 v558 => if v558 30 0 11 = 4 then (kb2 (g_X8_takes v558 1 1) (fun r561 v562 => Option.bind (g_X8_isWell v562) (fun r564 => if r564 = 0 then (some v562) else (if (8 : Int32) + ((3 : Int32) * 0) < 0 ∨ 65 ≤ Int32.toNatClampNeg ((8 : Int32) + ((3 : Int32) * 0)) then none else (Option.bind (some (up3 v562 37 0 (Int32.toNatClampNeg ((8 : Int32) + ((3 : Int32) * 0))) r371)) (fun v568 => if ((8 : Int32) + ((3 : Int32) * 0)) + 1 < 0 ∨ 65 ≤ Int32.toNatClampNeg (((8 : Int32) + ((3 : Int32) * 0)) + 1) then none else (Option.bind (some (up3 v568 37 0 (Int32.toNatClampNeg (((8 : Int32) + ((3 : Int32) * 0)) + 1)) r374)) (fun v570 => if ((8 : Int32) + ((3 : Int32) * 0)) + 2 < 0 ∨ 65 ≤ Int32.toNatClampNeg (((8 : Int32) + ((3 : Int32) * 0)) + 2) then none else (Option.bind (some (up3 v570 37 0 (Int32.toNatClampNeg (((8 : Int32) + ((3 : Int32) * 0)) + 2)) (r557 - 97))) (fun v572 => Option.bind (some (up3 v572 37 0 3 ((v572 37 0 3) + 1))) (fun v573 => some v573))))))))))) else (kb2 (g_X8_takes v558 0 1) (fun r575 v576 => Option.bind (g_X8_isWell v576) (fun r578 => if r578 = 0 then (some v576) else (if (8 : Int32) + ((3 : Int32) * 0) < 0 ∨ 65 ≤ Int32.toNatClampNeg ((8 : Int32) + ((3 : Int32) * 0)) then none else (Option.bind (some (up3 v576 37 0 (Int32.toNatClampNeg ((8 : Int32) + ((3 : Int32) * 0))) r371)) (fun v582 => if ((8 : Int32) + ((3 : Int32) * 0)) + 1 < 0 ∨ 65 ≤ Int32.toNatClampNeg (((8 : Int32) + ((3 : Int32) * 0)) + 1) then none else (Option.bind (some (up3 v582 37 0 (Int32.toNatClampNeg (((8 : Int32) + ((3 : Int32) * 0)) + 1)) r374)) (fun v584 => if ((8 : Int32) + ((3 : Int32) * 0)) + 2 < 0 ∨ 65 ≤ Int32.toNatClampNeg (((8 : Int32) + ((3 : Int32) * 0)) + 2) then none else (Option.bind (some (up3 v584 37 0 (Int32.toNatClampNeg (((8 : Int32) + ((3 : Int32) * 0)) + 2)) (r557 - 97))) (fun v586 => Option.bind (some (up3 v586 37 0 3 ((v586 37 0 3) + 1))) (fun v587 => some v587))))))))))))))))))))) else (Option.bind (some ((8 : Int32) + ((3 : Int32) * (w22 37 0 3)))) (fun x588 => kb2 (g_X8_letterOf w22) (fun r590 v591 => kb2 (g_X8_letterOf v591) (fun r593 v594 => Option.bind (g_X8_isWell v594) (fun r596 => if r596 = 0 then (Option.bind (g_X8_isTold v594 r590 r593 ((v594 30 0 12) - 97)) (fun r600 => if r600 = 0 then (kb2 (g_X8_takes v594 1 2) (fun r604 v605 => if v605 30 0 11 = 4 then (kb2 (g_X8_takes v605 1 1) (fun r608 v609 => Option.bind (g_X8_isWell v609) (fun r611 => if r611 = 0 then (some v609) else (if x588 < 0 ∨ 65 ≤ Int32.toNatClampNeg x588 then none else (Option.bind (some (up3 v609 37 0 (Int32.toNatClampNeg x588) r590)) (fun v615 => if x588 + 1 < 0 ∨ 65 ≤ Int32.toNatClampNeg (x588 + 1) then none else (Option.bind (some (up3 v615 37 0 (Int32.toNatClampNeg (x588 + 1)) r593)) (fun v617 => if x588 + 2 < 0 ∨ 65 ≤ Int32.toNatClampNeg (x588 + 2) then none else (Option.bind (some (up3 v617 37 0 (Int32.toNatClampNeg (x588 + 2)) (r604 - 97))) (fun v619 => Option.bind (some (up3 v619 37 0 3 ((v619 37 0 3) + 1))) (fun v620 => some v620))))))))))) else (kb2 (g_X8_takes v605 0 1) (fun r622 v623 => Option.bind (g_X8_isWell v623) (fun r625 => if r625 = 0 then (some v623) else (if x588 < 0 ∨ 65 ≤ Int32.toNatClampNeg x588 then none else (Option.bind (some (up3 v623 37 0 (Int32.toNatClampNeg x588) r590)) (fun v629 => if x588 + 1 < 0 ∨ 65 ≤ Int32.toNatClampNeg (x588 + 1) then none else (Option.bind (some (up3 v629 37 0 (Int32.toNatClampNeg (x588 + 1)) r593)) (fun v631 => if x588 + 2 < 0 ∨ 65 ≤ Int32.toNatClampNeg (x588 + 2) then none else (Option.bind (some (up3 v631 37 0 (Int32.toNatClampNeg (x588 + 2)) (r604 - 97))) (fun v633 => Option.bind (some (up3 v633 37 0 3 ((v633 37 0 3) + 1))) (fun v634 => some v634))))))))))))) else (kb2 (g_X8_takes v594 0 2) (fun r636 v637 => if v637 30 0 11 = 4 then (kb2 (g_X8_takes v637 1 1) (fun r640 v641 => Option.bind (g_X8_isWell v641) (fun r643 => if r643 = 0 then (some v641) else (if x588 < 0 ∨ 65 ≤ Int32.toNatClampNeg x588 then none else (Option.bind (some (up3 v641 37 0 (Int32.toNatClampNeg x588) r590)) (fun v647 => if x588 + 1 < 0 ∨ 65 ≤ Int32.toNatClampNeg (x588 + 1) then none else (Option.bind (some (up3 v647 37 0 (Int32.toNatClampNeg (x588 + 1)) r593)) (fun v649 => if x588 + 2 < 0 ∨ 65 ≤ Int32.toNatClampNeg (x588 + 2) then none else (Option.bind (some (up3 v649 37 0 (Int32.toNatClampNeg (x588 + 2)) (r636 - 97))) (fun v651 => Option.bind (some (up3 v651 37 0 3 ((v651 37 0 3) + 1))) (fun v652 => some v652))))))))))) else (kb2 (g_X8_takes v637 0 1) (fun r654 v655 => Option.bind (g_X8_isWell v655) (fun r657 => if r657 = 0 then (some v655) else (if x588 < 0 ∨ 65 ≤ Int32.toNatClampNeg x588 then none else (Option.bind (some (up3 v655 37 0 (Int32.toNatClampNeg x588) r590)) (fun v661 => if x588 + 1 < 0 ∨ 65 ≤ Int32.toNatClampNeg (x588 + 1) then none else (Option.bind (some (up3 v661 37 0 (Int32.toNatClampNeg (x588 + 1)) r593)) (fun v663 => if x588 + 2 < 0 ∨ 65 ≤ Int32.toNatClampNeg (x588 + 2) then none else (Option.bind (some (up3 v663 37 0 (Int32.toNatClampNeg (x588 + 2)) (r636 - 97))) (fun v665 => Option.bind (some (up3 v665 37 0 3 ((v665 37 0 3) + 1))) (fun v666 => some v666))))))))))))))) else (if v594 30 0 11 = 1 then (Option.bind (g_X8_isTold v594 r590 r593 ((v594 30 0 12) - 97)) (fun r669 => if r669 = 0 then (kb2 (g_X8_takes v594 1 2) (fun r673 v674 => if v674 30 0 11 = 4 then (kb2 (g_X8_takes v674 1 1) (fun r677 v678 => Option.bind (g_X8_isWell v678) (fun r680 => if r680 = 0 then (some v678) else (if x588 < 0 ∨ 65 ≤ Int32.toNatClampNeg x588 then none else (Option.bind (some (up3 v678 37 0 (Int32.toNatClampNeg x588) r590)) (fun v684 => if x588 + 1 < 0 ∨ 65 ≤ Int32.toNatClampNeg (x588 + 1) then none else (Option.bind (some (up3 v684 37 0 (Int32.toNatClampNeg (x588 + 1)) r593)) (fun v686 => if x588 + 2 < 0 ∨ 65 ≤ Int32.toNatClampNeg (x588 + 2) then none else (Option.bind (some (up3 v686 37 0 (Int32.toNatClampNeg (x588 + 2)) (r673 - 97))) (fun v688 => Option.bind (some (up3 v688 37 0 3 ((v688 37 0 3) + 1))) (fun v689 => some v689))))))))))) else (kb2 (g_X8_takes v674 0 1) (fun r691 v692 => Option.bind (g_X8_isWell v692) (fun r694 => if r694 = 0 then (some v692) else (if x588 < 0 ∨ 65 ≤ Int32.toNatClampNeg x588 then none else (Option.bind (some (up3 v692 37 0 (Int32.toNatClampNeg x588) r590)) (fun v698 => if x588 + 1 < 0 ∨ 65 ≤ Int32.toNatClampNeg (x588 + 1) then none else (Option.bind (some (up3 v698 37 0 (Int32.toNatClampNeg (x588 + 1)) r593)) (fun v700 => if x588 + 2 < 0 ∨ 65 ≤ Int32.toNatClampNeg (x588 + 2) then none else (Option.bind (some (up3 v700 37 0 (Int32.toNatClampNeg (x588 + 2)) (r673 - 97))) (fun v702 => Option.bind (some (up3 v702 37 0 3 ((v702 37 0 3) + 1))) (fun v703 => some v703))))))))))))) else (kb2 (g_X8_takes v594 0 2) (fun r705 v706 => if v706 30 0 11 = 4 then (kb2 (g_X8_takes v706 1 1) (fun r709 v710 => Option.bind (g_X8_isWell v710) (fun r712 => if r712 = 0 then (some v710) else (if x588 < 0 ∨ 65 ≤ Int32.toNatClampNeg x588 then none else (Option.bind (some (up3 v710 37 0 (Int32.toNatClampNeg x588) r590)) (fun v716 => if x588 + 1 < 0 ∨ 65 ≤ Int32.toNatClampNeg (x588 + 1) then none else (Option.bind (some (up3 v716 37 0 (Int32.toNatClampNeg (x588 + 1)) r593)) (fun v718 => if x588 + 2 < 0 ∨ 65 ≤ Int32.toNatClampNeg (x588 + 2) then none else (Option.bind (some (up3 v718 37 0 (Int32.toNatClampNeg (x588 + 2)) (r705 - 97))) (fun v720 => Option.bind (some (up3 v720 37 0 3 ((v720 37 0 3) + 1))) (fun v721 => some v721))))))))))) else (kb2 (g_X8_takes v706 0 1) (fun r723 v724 => Option.bind (g_X8_isWell v724) (fun r726 => if r726 = 0 then (some v724) else (if x588 < 0 ∨ 65 ≤ Int32.toNatClampNeg x588 then none else (Option.bind (some (up3 v724 37 0 (Int32.toNatClampNeg x588) r590)) (fun v730 => if x588 + 1 < 0 ∨ 65 ≤ Int32.toNatClampNeg (x588 + 1) then none else (Option.bind (some (up3 v730 37 0 (Int32.toNatClampNeg (x588 + 1)) r593)) (fun v732 => if x588 + 2 < 0 ∨ 65 ≤ Int32.toNatClampNeg (x588 + 2) then none else (Option.bind (some (up3 v732 37 0 (Int32.toNatClampNeg (x588 + 2)) (r705 - 97))) (fun v734 => Option.bind (some (up3 v734 37 0 3 ((v734 37 0 3) + 1))) (fun v735 => some v735))))))))))))))) else (kb2 (g_X8_takes v594 0 1) (fun r737 v738 => Option.bind (g_X8_isTold v738 r590 r593 ((v738 30 0 12) - 97)) (fun r740 => if r740 = 0 then (kb2 (g_X8_takes v738 1 2) (fun r744 v745 => if v745 30 0 11 = 4 then (kb2 (g_X8_takes v745 1 1) (fun r748 v749 => Option.bind (g_X8_isWell v749) (fun r751 => if r751 = 0 then (some v749) else (if x588 < 0 ∨ 65 ≤ Int32.toNatClampNeg x588 then none else (Option.bind (some (up3 v749 37 0 (Int32.toNatClampNeg x588) r590)) (fun v755 => if x588 + 1 < 0 ∨ 65 ≤ Int32.toNatClampNeg (x588 + 1) then none else (Option.bind (some (up3 v755 37 0 (Int32.toNatClampNeg (x588 + 1)) r593)) (fun v757 => if x588 + 2 < 0 ∨ 65 ≤ Int32.toNatClampNeg (x588 + 2) then none else (Option.bind (some (up3 v757 37 0 (Int32.toNatClampNeg (x588 + 2)) (r744 - 97))) (fun v759 => Option.bind (some (up3 v759 37 0 3 ((v759 37 0 3) + 1))) (fun v760 => some v760))))))))))) else (kb2 (g_X8_takes v745 0 1) (fun r762 v763 => Option.bind (g_X8_isWell v763) (fun r765 => if r765 = 0 then (some v763) else (if x588 < 0 ∨ 65 ≤ Int32.toNatClampNeg x588 then none else (Option.bind (some (up3 v763 37 0 (Int32.toNatClampNeg x588) r590)) (fun v769 => if x588 + 1 < 0 ∨ 65 ≤ Int32.toNatClampNeg (x588 + 1) then none else (Option.bind (some (up3 v769 37 0 (Int32.toNatClampNeg (x588 + 1)) r593)) (fun v771 => if x588 + 2 < 0 ∨ 65 ≤ Int32.toNatClampNeg (x588 + 2) then none else (Option.bind (some (up3 v771 37 0 (Int32.toNatClampNeg (x588 + 2)) (r744 - 97))) (fun v773 => Option.bind (some (up3 v773 37 0 3 ((v773 37 0 3) + 1))) (fun v774 => some v774))))))))))))) else (kb2 (g_X8_takes v738 0 2) (fun r776 v777 => if v777 30 0 11 = 4 then (kb2 (g_X8_takes v777 1 1) (fun r780 v781 => Option.bind (g_X8_isWell v781) (fun r783 => if r783 = 0 then (some v781) else (if x588 < 0 ∨ 65 ≤ Int32.toNatClampNeg x588 then none else (Option.bind (some (up3 v781 37 0 (Int32.toNatClampNeg x588) r590)) (fun v787 => if x588 + 1 < 0 ∨ 65 ≤ Int32.toNatClampNeg (x588 + 1) then none else (Option.bind (some (up3 v787 37 0 (Int32.toNatClampNeg (x588 + 1)) r593)) (fun v789 => if x588 + 2 < 0 ∨ 65 ≤ Int32.toNatClampNeg (x588 + 2) then none else (Option.bind (some (up3 v789 37 0 (Int32.toNatClampNeg (x588 + 2)) (r776 - 97))) (fun v791 => Option.bind (some (up3 v791 37 0 3 ((v791 37 0 3) + 1))) (fun v792 => some v792))))))))))) else (kb2 (g_X8_takes v777 0 1) (fun r794 v795 => Option.bind (g_X8_isWell v795) (fun r797 => if r797 = 0 then (some v795) else (if x588 < 0 ∨ 65 ≤ Int32.toNatClampNeg x588 then none else (Option.bind (some (up3 v795 37 0 (Int32.toNatClampNeg x588) r590)) (fun v801 => if x588 + 1 < 0 ∨ 65 ≤ Int32.toNatClampNeg (x588 + 1) then none else (Option.bind (some (up3 v801 37 0 (Int32.toNatClampNeg (x588 + 1)) r593)) (fun v803 => if x588 + 2 < 0 ∨ 65 ≤ Int32.toNatClampNeg (x588 + 2) then none else (Option.bind (some (up3 v803 37 0 (Int32.toNatClampNeg (x588 + 2)) (r776 - 97))) (fun v805 => Option.bind (some (up3 v805 37 0 3 ((v805 37 0 3) + 1))) (fun v806 => some v806))))))))))))))))))))))) (fun z => IM z ∧ (Int32.toInt (z 37 0 4) = Int32.toInt (v 37 0 4)) ∧ ((Int32.toInt (v 30 0 8) < 0 ∧ Int32.toInt (z 37 0 3) = Int32.toInt (v 37 0 3) + 1) ∨ 0 ≤ Int32.toInt (z 30 0 8))) := by
    intro w22 hI_w22 hv0_22 hv1_22 hv2_22 hv3_22
    have : ((w22 36 0 3).toInt = 0 ∧ (w22 36 0 4).toInt = 0) ∨ (0 < (w22 36 0 3).toInt ∧ 0 < (w22 36 0 4).toInt) := hI_w22.2.1
    have : (0 : Int) ≤ (w22 37 0 3).toInt ∧ (w22 37 0 3).toInt ≤ (6 : Int) := hI_w22.1 37 0 3
    have : (0 : Int) ≤ (v 37 0 3).toInt ∧ (v 37 0 3).toInt ≤ (6 : Int) := hI_v.1 37 0 3
    have : (0 : Int) ≤ (w22 37 0 4).toInt ∧ (w22 37 0 4).toInt ≤ (4 : Int) := hI_w22.1 37 0 4
    have : (0 : Int) ≤ (v 37 0 4).toInt ∧ (v 37 0 4).toInt ≤ (4 : Int) := hI_v.1 37 0 4
    have : (-1 : Int) ≤ (v 30 0 8).toInt ∧ (v 30 0 8).toInt ≤ (100 : Int) := hI_v.1 30 0 8
    have : (-1 : Int) ≤ (w22 30 0 8).toInt ∧ (w22 30 0 8).toInt ≤ (100 : Int) := hI_w22.1 30 0 8
    refine ok_ite _ (fun c807 => ?_) (fun c807 => ?_)
    · skip
      have ic807 := i_le c807
      have : (0 : Int) ≤ (w22 37 0 3).toInt ∧ (w22 37 0 3).toInt ≤ (6 : Int) := hI_w22.1 37 0 3
      have : (6 : Int32).toInt = 6 := (by decide)
      have : (8 : Int32).toInt = 8 := (by decide)
      have : (3 : Int32).toInt = 3 := (by decide)
      have : (0 : Int32).toInt = 0 := (by decide)
      (first | have := sp_mulcx (3 : Int32) (0 : Int32) 0 (by decide) (by omega) | obtain ⟨k453, hk453⟩ := sp_mulc (3 : Int32) (0 : Int32) 0 (by decide))
      (first | have := sp_addx (8 : Int32) ((3 : Int32) * 0) (by omega) | obtain ⟨k454, hk454⟩ := sp_add (8 : Int32) ((3 : Int32) * 0))
      exact join49 w22 ((8 : Int32) + ((3 : Int32) * 0)) hI_w22 (by omega) (by omega) (by omega) (by omega) (by omega)
    · skip
      have ic807 := i_nle c807
      have : (0 : Int) ≤ (w22 37 0 3).toInt ∧ (w22 37 0 3).toInt ≤ (6 : Int) := hI_w22.1 37 0 3
      have : (6 : Int32).toInt = 6 := (by decide)
      refine ok_let (fun x808 ex808 => ?_)
      have : (8 : Int32).toInt = 8 := (by decide)
      have : (3 : Int32).toInt = 3 := (by decide)
      have : (0 : Int) ≤ (w22 37 0 3).toInt ∧ (w22 37 0 3).toInt ≤ (6 : Int) := hI_w22.1 37 0 3
      (first | have := sp_cmulx (3 : Int32) (w22 37 0 3) 3 (by decide) (by omega) | obtain ⟨k455, hk455⟩ := sp_cmul (3 : Int32) (w22 37 0 3) 3 (by decide))
      (first | have := sp_addx (8 : Int32) ((3 : Int32) * (w22 37 0 3)) (by omega) | obtain ⟨k456, hk456⟩ := sp_add (8 : Int32) ((3 : Int32) * (w22 37 0 3)))
      have := i_eq ex808
      exact join49 w22 x808 hI_w22 (by omega) (by omega) (by omega) (by omega) (by omega)
  unfold g_X8_readsWord
  try rw [tc_3]
  refine ok_ite _ (fun c809 => ?_) (fun c809 => ?_)
  · skip
    have ic809 := i_le c809
    have : (0 : Int) ≤ (v 37 0 3).toInt ∧ (v 37 0 3).toInt ≤ (6 : Int) := hI_v.1 37 0 3
    have : (6 : Int32).toInt = 6 := (by decide)
    refine ok_kb2 (k_X8_takes v hI_v 0 3 ) (fun r811 v812 hr811 => ?_)
    have hr811 : IM v812 ∧ (Int32.toInt (v812 37 0 3) = Int32.toInt (v 37 0 3)) ∧ (Int32.toInt (v812 37 0 4) = Int32.toInt (v 37 0 4)) ∧ (Int32.toInt (v 30 0 8) < 0 ∨ 0 ≤ Int32.toInt (v812 30 0 8)) ∧ (¬ Int32.toInt 0 = 0 ∨ 0 ≤ Int32.toInt (v812 30 0 8)) ∧ (Int32.toInt r811 = 0 ∨ (Int32.toInt r811 = Int32.toInt (v 30 0 12) ∧ ¬ Int32.toInt 0 = 0)) := hr811
    obtain ⟨hI_v812, hr811⟩ := hr811
    have : ((v812 36 0 3).toInt = 0 ∧ (v812 36 0 4).toInt = 0) ∨ (0 < (v812 36 0 3).toInt ∧ 0 < (v812 36 0 4).toInt) := hI_v812.2.1
    have : (0 : Int) ≤ (v 37 0 3).toInt ∧ (v 37 0 3).toInt ≤ (6 : Int) := hI_v.1 37 0 3
    have : (0 : Int) ≤ (v 37 0 4).toInt ∧ (v 37 0 4).toInt ≤ (4 : Int) := hI_v.1 37 0 4
    have : (-1 : Int) ≤ (v 30 0 8).toInt ∧ (v 30 0 8).toInt ≤ (100 : Int) := hI_v.1 30 0 8
    have : (0 : Int32).toInt = 0 := (by decide)
    have : (3 : Int32).toInt = 3 := (by decide)
    exact join22 v812 hI_v812 (by omega) (by omega) (by omega) (by omega)
  · skip
    have ic809 := i_nle c809
    have : (0 : Int) ≤ (v 37 0 3).toInt ∧ (v 37 0 3).toInt ≤ (6 : Int) := hI_v.1 37 0 3
    have : (6 : Int32).toInt = 6 := (by decide)
    refine ok_kb2 (k_X8_takes v hI_v 1 3 ) (fun r814 v815 hr814 => ?_)
    have hr814 : IM v815 ∧ (Int32.toInt (v815 37 0 3) = Int32.toInt (v 37 0 3)) ∧ (Int32.toInt (v815 37 0 4) = Int32.toInt (v 37 0 4)) ∧ (Int32.toInt (v 30 0 8) < 0 ∨ 0 ≤ Int32.toInt (v815 30 0 8)) ∧ (¬ Int32.toInt 1 = 0 ∨ 0 ≤ Int32.toInt (v815 30 0 8)) ∧ (Int32.toInt r814 = 0 ∨ (Int32.toInt r814 = Int32.toInt (v 30 0 12) ∧ ¬ Int32.toInt 1 = 0)) := hr814
    obtain ⟨hI_v815, hr814⟩ := hr814
    have : ((v815 36 0 3).toInt = 0 ∧ (v815 36 0 4).toInt = 0) ∨ (0 < (v815 36 0 3).toInt ∧ 0 < (v815 36 0 4).toInt) := hI_v815.2.1
    have : (0 : Int) ≤ (v 37 0 3).toInt ∧ (v 37 0 3).toInt ≤ (6 : Int) := hI_v.1 37 0 3
    have : (0 : Int) ≤ (v 37 0 4).toInt ∧ (v 37 0 4).toInt ≤ (4 : Int) := hI_v.1 37 0 4
    have : (-1 : Int) ≤ (v 30 0 8).toInt ∧ (v 30 0 8).toInt ≤ (100 : Int) := hI_v.1 30 0 8
    have : (1 : Int32).toInt = 1 := (by decide)
    have : (3 : Int32).toInt = 3 := (by decide)
    exact join22 v815 hI_v815 (by omega) (by omega) (by omega) (by omega)
set_option maxHeartbeats 4000000 in
theorem k_X8_readsGuard (v : Mm) (hI_v : IM v)  : ok (g_X8_readsGuard v ) (fun z => IM z ∧ (Int32.toInt (z 37 0 3) = Int32.toInt (v 37 0 3)) ∧ ((Int32.toInt (v 30 0 8) < 0 ∧ Int32.toInt (z 37 0 4) = Int32.toInt (v 37 0 4) + 1) ∨ 0 ≤ Int32.toInt (z 30 0 8))) := by
  have : ((v 36 0 3).toInt = 0 ∧ (v 36 0 4).toInt = 0) ∨ (0 < (v 36 0 3).toInt ∧ 0 < (v 36 0 4).toInt) := hI_v.2.1
  have join82 : ∀ (w82 : Mm) (x1_82 : Int32) (x2_82 : Int32) (x3_82 : Int32), (IM w82) → ((26 : Int) ≤ Int32.toInt x2_82 ∧ Int32.toInt x2_82 ≤ (35 : Int)) → (Int32.toInt (w82 37 0 3) = Int32.toInt (v 37 0 3)) → (Int32.toInt (w82 37 0 4) = Int32.toInt (v 37 0 4)) → (Int32.toInt (v 30 0 8) < 0 ∨ 0 ≤ Int32.toInt (w82 30 0 8)) → (Int32.toInt (v 37 0 4) ≤ 3 ∨ 0 ≤ Int32.toInt (w82 30 0 8)) →  ok (Option.bind (g_X8_isWell w82) (fun r2 => if r2 = 0 then (some w82) else (if x2_82 < 0 ∨ 65 ≤ Int32.toNatClampNeg x2_82 then none else (Option.bind (some (up3 w82 37 0 (Int32.toNatClampNeg x2_82) x1_82)) (fun v6 => if x2_82 + 1 < 0 ∨ 65 ≤ Int32.toNatClampNeg (x2_82 + 1) then none else (Option.bind (some (up3 v6 37 0 (Int32.toNatClampNeg (x2_82 + 1)) x3_82)) (fun v8 => Option.bind (some (up3 v8 37 0 6 ((v8 37 0 6) ||| ((1 : Int32) <<< ((v8 37 0 4) &&& 31))))) (fun v9 => Option.bind (some (up3 v9 37 0 4 ((v9 37 0 4) + 1))) (fun v10 => some v10))))))))) (fun z => IM z ∧ (Int32.toInt (z 37 0 3) = Int32.toInt (v 37 0 3)) ∧ ((Int32.toInt (v 30 0 8) < 0 ∧ Int32.toInt (z 37 0 4) = Int32.toInt (v 37 0 4) + 1) ∨ 0 ≤ Int32.toInt (z 30 0 8))) := by
    intro w82 x1_82 x2_82 x3_82 hI_w82 hv0_82 hv1_82 hv2_82 hv3_82 hv4_82
    have : ((w82 36 0 3).toInt = 0 ∧ (w82 36 0 4).toInt = 0) ∨ (0 < (w82 36 0 3).toInt ∧ 0 < (w82 36 0 4).toInt) := hI_w82.2.1
    have : (0 : Int) ≤ (w82 37 0 3).toInt ∧ (w82 37 0 3).toInt ≤ (6 : Int) := hI_w82.1 37 0 3
    have : (0 : Int) ≤ (v 37 0 3).toInt ∧ (v 37 0 3).toInt ≤ (6 : Int) := hI_v.1 37 0 3
    have : (0 : Int) ≤ (w82 37 0 4).toInt ∧ (w82 37 0 4).toInt ≤ (4 : Int) := hI_w82.1 37 0 4
    have : (0 : Int) ≤ (v 37 0 4).toInt ∧ (v 37 0 4).toInt ≤ (4 : Int) := hI_v.1 37 0 4
    have : (-1 : Int) ≤ (v 30 0 8).toInt ∧ (v 30 0 8).toInt ≤ (100 : Int) := hI_v.1 30 0 8
    have : (-1 : Int) ≤ (w82 30 0 8).toInt ∧ (w82 30 0 8).toInt ≤ (100 : Int) := hI_w82.1 30 0 8
    refine ok_bind (k_X8_isWell w82 hI_w82  ) (fun r12 hr12 => ?_)
    have hr12 : (0 : Int) ≤ Int32.toInt r12 ∧ Int32.toInt r12 ≤ (1 : Int) ∧ ((Int32.toInt r12 = 0 ∧ 0 ≤ Int32.toInt (w82 30 0 8)) ∨ (Int32.toInt r12 = 1 ∧ Int32.toInt (w82 30 0 8) < 0)) := hr12
    have : (-1 : Int) ≤ (w82 30 0 8).toInt ∧ (w82 30 0 8).toInt ≤ (100 : Int) := hI_w82.1 30 0 8
    refine ok_ite _ (fun c14 => ?_) (fun c14 => ?_)
    · skip
      have ic14 := i_eq c14
      have : (0 : Int32).toInt = 0 := (by decide)
      refine ok_some ?_
      show IM w82 ∧ (Int32.toInt (w82 37 0 3) = Int32.toInt (v 37 0 3)) ∧ ((Int32.toInt (v 30 0 8) < 0 ∧ Int32.toInt (w82 37 0 4) = Int32.toInt (v 37 0 4) + 1) ∨ 0 ≤ Int32.toInt (w82 30 0 8))
      refine ⟨hI_w82, ?_⟩
      omega
    · skip
      have ic14 := i_ne c14
      have : (0 : Int32).toInt = 0 := (by decide)
      refine ok_grd _ ?_ ?_
      · skip
        exact gr (by omega) (by omega)
      refine ok_let (fun v16 ev16 => ?_)
      have hI_v16 : IM v16 := by
        rw [ev16]
        first | exact hI_w82.um7 (by omega) (by omega) | exact hI_w82.u07
      have := i_eq (show v16 30 0 8 = w82 30 0 8 by rw [ev16]; exact up3_t (by decide))
      have := i_eq (show v16 30 0 11 = w82 30 0 11 by rw [ev16]; exact up3_t (by decide))
      have := i_eq (show v16 30 0 12 = w82 30 0 12 by rw [ev16]; exact up3_t (by decide))
      (try have := i_eq (show v16 37 0 3 = w82 37 0 3 by rw [ev16]; exact up3_j (tcne (by omega) (by omega))))
      (try have := i_eq (show v16 37 0 4 = w82 37 0 4 by rw [ev16]; exact up3_j (tcne (by omega) (by omega))))
      (try have := i_eq (show v16 37 0 6 = w82 37 0 6 by rw [ev16]; exact up3_j (tcne (by omega) (by omega))))
      have : ((v16 36 0 3).toInt = 0 ∧ (v16 36 0 4).toInt = 0) ∨ (0 < (v16 36 0 3).toInt ∧ 0 < (v16 36 0 4).toInt) := hI_v16.2.1
      refine ok_grd _ ?_ ?_
      · skip
        have : (1 : Int32).toInt = 1 := (by decide)
        have := i_bd x2_82
        (first | have := sp_addx x2_82 (1 : Int32) (by omega) | obtain ⟨k5, hk5⟩ := sp_add x2_82 (1 : Int32))
        exact gr (by omega) (by omega)
      refine ok_let (fun v18 ev18 => ?_)
      have : (1 : Int32).toInt = 1 := (by decide)
      have := i_bd x2_82
      (first | have := sp_addx x2_82 (1 : Int32) (by omega) | obtain ⟨k6, hk6⟩ := sp_add x2_82 (1 : Int32))
      have hI_v18 : IM v18 := by
        rw [ev18]
        first | exact hI_v16.um7 (by omega) (by omega) | exact hI_v16.u07
      have := i_eq (show v18 30 0 8 = v16 30 0 8 by rw [ev18]; exact up3_t (by decide))
      have := i_eq (show v18 30 0 11 = v16 30 0 11 by rw [ev18]; exact up3_t (by decide))
      have := i_eq (show v18 30 0 12 = v16 30 0 12 by rw [ev18]; exact up3_t (by decide))
      (try have := i_eq (show v18 37 0 3 = v16 37 0 3 by rw [ev18]; exact up3_j (tcne (by omega) (by omega))))
      (try have := i_eq (show v18 37 0 4 = v16 37 0 4 by rw [ev18]; exact up3_j (tcne (by omega) (by omega))))
      (try have := i_eq (show v18 37 0 6 = v16 37 0 6 by rw [ev18]; exact up3_j (tcne (by omega) (by omega))))
      have : ((v18 36 0 3).toInt = 0 ∧ (v18 36 0 4).toInt = 0) ∨ (0 < (v18 36 0 3).toInt ∧ 0 < (v18 36 0 4).toInt) := hI_v18.2.1
      refine ok_let (fun v19 ev19 => ?_)
      have hI_v19 : IM v19 := by
        rw [ev19]
        refine hI_v18.upo (by decide) ?_
        show (0 : Int) ≤ Int32.toInt ((v18 37 0 6) ||| ((1 : Int32) <<< ((v18 37 0 4) &&& 31))) ∧ Int32.toInt ((v18 37 0 6) ||| ((1 : Int32) <<< ((v18 37 0 4) &&& 31))) ≤ (15 : Int)
        have : (0 : Int) ≤ (v18 37 0 6).toInt ∧ (v18 37 0 6).toInt ≤ (15 : Int) := hI_v18.1 37 0 6
        have : (1 : Int32).toInt = 1 := (by decide)
        have : (0 : Int) ≤ (v18 37 0 4).toInt ∧ (v18 37 0 4).toInt ≤ (4 : Int) := hI_v18.1 37 0 4
        (try have := sp_shl4 (b := (v18 37 0 4)) (by omega) (by omega))
        (try have := sp_shl5 (b := (v18 37 0 4)) (by omega) (by omega))
        (try have := sp_shl7 (b := (v18 37 0 4)) (by omega) (by omega))
        (try have := sp_shl (a := (1 : Int32)) (b := (v18 37 0 4)) (by omega) (by omega) (by omega) (by omega))
        (try have := sp_or64 (a := (v18 37 0 6)) (b := ((1 : Int32) <<< ((v18 37 0 4) &&& 31))) (by omega) (by omega) (by omega) (by omega))
        (try have := sp_or16 (a := (v18 37 0 6)) (b := ((1 : Int32) <<< ((v18 37 0 4) &&& 31))) (by omega) (by omega) (by omega) (by omega))
        omega
      have := i_eq (show v19 30 0 8 = v18 30 0 8 by rw [ev19]; exact up3_t (by decide))
      have := i_eq (show v19 30 0 11 = v18 30 0 11 by rw [ev19]; exact up3_t (by decide))
      have := i_eq (show v19 30 0 12 = v18 30 0 12 by rw [ev19]; exact up3_t (by decide))
      have := i_eq (show v19 37 0 3 = v18 37 0 3 by rw [ev19]; exact up3_j (by decide))
      have := i_eq (show v19 37 0 4 = v18 37 0 4 by rw [ev19]; exact up3_j (by decide))
      have := i_eq (show v19 37 0 6 = ((v18 37 0 6) ||| ((1 : Int32) <<< ((v18 37 0 4) &&& 31))) by rw [ev19]; exact up3_s)
      have : (0 : Int) ≤ (v18 37 0 6).toInt ∧ (v18 37 0 6).toInt ≤ (15 : Int) := hI_v18.1 37 0 6
      have : (1 : Int32).toInt = 1 := (by decide)
      have : (0 : Int) ≤ (v18 37 0 4).toInt ∧ (v18 37 0 4).toInt ≤ (4 : Int) := hI_v18.1 37 0 4
      (try have := sp_shl4 (b := (v18 37 0 4)) (by omega) (by omega))
      (try have := sp_shl5 (b := (v18 37 0 4)) (by omega) (by omega))
      (try have := sp_shl7 (b := (v18 37 0 4)) (by omega) (by omega))
      (try have := sp_shl (a := (1 : Int32)) (b := (v18 37 0 4)) (by omega) (by omega) (by omega) (by omega))
      (try have := sp_or64 (a := (v18 37 0 6)) (b := ((1 : Int32) <<< ((v18 37 0 4) &&& 31))) (by omega) (by omega) (by omega) (by omega))
      (try have := sp_or16 (a := (v18 37 0 6)) (b := ((1 : Int32) <<< ((v18 37 0 4) &&& 31))) (by omega) (by omega) (by omega) (by omega))
      have : ((v19 36 0 3).toInt = 0 ∧ (v19 36 0 4).toInt = 0) ∨ (0 < (v19 36 0 3).toInt ∧ 0 < (v19 36 0 4).toInt) := hI_v19.2.1
      refine ok_let (fun v20 ev20 => ?_)
      have hI_v20 : IM v20 := by
        rw [ev20]
        refine hI_v19.upo (by decide) ?_
        show (0 : Int) ≤ Int32.toInt ((v19 37 0 4) + 1) ∧ Int32.toInt ((v19 37 0 4) + 1) ≤ (4 : Int)
        have : (0 : Int) ≤ (v19 37 0 4).toInt ∧ (v19 37 0 4).toInt ≤ (4 : Int) := hI_v19.1 37 0 4
        have : (1 : Int32).toInt = 1 := (by decide)
        have := i_bd (v19 37 0 4)
        (first | have := sp_addx (v19 37 0 4) (1 : Int32) (by omega) | obtain ⟨k7, hk7⟩ := sp_add (v19 37 0 4) (1 : Int32))
        omega
      have := i_eq (show v20 30 0 8 = v19 30 0 8 by rw [ev20]; exact up3_t (by decide))
      have := i_eq (show v20 30 0 11 = v19 30 0 11 by rw [ev20]; exact up3_t (by decide))
      have := i_eq (show v20 30 0 12 = v19 30 0 12 by rw [ev20]; exact up3_t (by decide))
      have := i_eq (show v20 37 0 3 = v19 37 0 3 by rw [ev20]; exact up3_j (by decide))
      have := i_eq (show v20 37 0 4 = ((v19 37 0 4) + 1) by rw [ev20]; exact up3_s)
      have : (0 : Int) ≤ (v19 37 0 4).toInt ∧ (v19 37 0 4).toInt ≤ (4 : Int) := hI_v19.1 37 0 4
      have : (1 : Int32).toInt = 1 := (by decide)
      have := i_bd (v19 37 0 4)
      (first | have := sp_addx (v19 37 0 4) (1 : Int32) (by omega) | obtain ⟨k8, hk8⟩ := sp_add (v19 37 0 4) (1 : Int32))
      have := i_eq (show v20 37 0 6 = v19 37 0 6 by rw [ev20]; exact up3_j (by decide))
      have : ((v20 36 0 3).toInt = 0 ∧ (v20 36 0 4).toInt = 0) ∨ (0 < (v20 36 0 3).toInt ∧ 0 < (v20 36 0 4).toInt) := hI_v20.2.1
      refine ok_some ?_
      show IM v20 ∧ (Int32.toInt (v20 37 0 3) = Int32.toInt (v 37 0 3)) ∧ ((Int32.toInt (v 30 0 8) < 0 ∧ Int32.toInt (v20 37 0 4) = Int32.toInt (v 37 0 4) + 1) ∨ 0 ≤ Int32.toInt (v20 30 0 8))
      refine ⟨hI_v20, ?_⟩
      omega
  have join55 : ∀ (w55 : Mm) (x1_55 : Int32) (x2_55 : Int32), (IM w55) → ((26 : Int) ≤ Int32.toInt x2_55 ∧ Int32.toInt x2_55 ≤ (35 : Int)) → (Int32.toInt (w55 37 0 3) = Int32.toInt (v 37 0 3)) → (Int32.toInt (w55 37 0 4) = Int32.toInt (v 37 0 4)) → (Int32.toInt (v 30 0 8) < 0 ∨ 0 ≤ Int32.toInt (w55 30 0 8)) → (Int32.toInt (v 37 0 4) ≤ 3 ∨ 0 ≤ Int32.toInt (w55 30 0 8)) →  ok (kb2 (g_X8_figure w55 0 9) (fun r22 v23 => if v23 30 0 11 = 4 then (kb2 (g_X8_takes v23 1 1) (fun r26 v27 => Option.bind (g_X8_isWell v27) (fun r29 => if r29 = 0 then (some v27) else (if x2_55 < 0 ∨ 65 ≤ Int32.toNatClampNeg x2_55 then none else (Option.bind (some (up3 v27 37 0 (Int32.toNatClampNeg x2_55) x1_55)) (fun v33 => if x2_55 + 1 < 0 ∨ 65 ≤ Int32.toNatClampNeg (x2_55 + 1) then none else (Option.bind (some (up3 v33 37 0 (Int32.toNatClampNeg (x2_55 + 1)) r22)) (fun v35 => Option.bind (some (up3 v35 37 0 6 ((v35 37 0 6) ||| ((1 : Int32) <<< ((v35 37 0 4) &&& 31))))) (fun v36 => Option.bind (some (up3 v36 37 0 4 ((v36 37 0 4) + 1))) (fun v37 => some v37)))))))))) else (kb2 (g_X8_takes v23 0 1) (fun r39 v40 => Option.bind (g_X8_isWell v40) (fun r42 => if r42 = 0 then (some v40) else (if x2_55 < 0 ∨ 65 ≤ Int32.toNatClampNeg x2_55 then none else (Option.bind (some (up3 v40 37 0 (Int32.toNatClampNeg x2_55) x1_55)) (fun v46 => if x2_55 + 1 < 0 ∨ 65 ≤ Int32.toNatClampNeg (x2_55 + 1) then none else (Option.bind (some (up3 v46 37 0 (Int32.toNatClampNeg (x2_55 + 1)) r22)) (fun v48 => Option.bind (some (up3 v48 37 0 6 ((v48 37 0 6) ||| ((1 : Int32) <<< ((v48 37 0 4) &&& 31))))) (fun v49 => Option.bind (some (up3 v49 37 0 4 ((v49 37 0 4) + 1))) (fun v50 => some v50)))))))))))) (fun z => IM z ∧ (Int32.toInt (z 37 0 3) = Int32.toInt (v 37 0 3)) ∧ ((Int32.toInt (v 30 0 8) < 0 ∧ Int32.toInt (z 37 0 4) = Int32.toInt (v 37 0 4) + 1) ∨ 0 ≤ Int32.toInt (z 30 0 8))) := by
    intro w55 x1_55 x2_55 hI_w55 hv0_55 hv1_55 hv2_55 hv3_55 hv4_55
    have : ((w55 36 0 3).toInt = 0 ∧ (w55 36 0 4).toInt = 0) ∨ (0 < (w55 36 0 3).toInt ∧ 0 < (w55 36 0 4).toInt) := hI_w55.2.1
    have : (0 : Int) ≤ (w55 37 0 3).toInt ∧ (w55 37 0 3).toInt ≤ (6 : Int) := hI_w55.1 37 0 3
    have : (0 : Int) ≤ (v 37 0 3).toInt ∧ (v 37 0 3).toInt ≤ (6 : Int) := hI_v.1 37 0 3
    have : (0 : Int) ≤ (w55 37 0 4).toInt ∧ (w55 37 0 4).toInt ≤ (4 : Int) := hI_w55.1 37 0 4
    have : (0 : Int) ≤ (v 37 0 4).toInt ∧ (v 37 0 4).toInt ≤ (4 : Int) := hI_v.1 37 0 4
    have : (-1 : Int) ≤ (v 30 0 8).toInt ∧ (v 30 0 8).toInt ≤ (100 : Int) := hI_v.1 30 0 8
    have : (-1 : Int) ≤ (w55 30 0 8).toInt ∧ (w55 30 0 8).toInt ≤ (100 : Int) := hI_w55.1 30 0 8
    refine ok_kb2 (k_X8_figure w55 hI_w55 0 9 (by have : (0 : Int32).toInt = 0 := (by decide); omega) (by have : (9 : Int32).toInt = 9 := (by decide); omega)) (fun r52 v53 hr52 => ?_)
    have hr52 : IM v53 ∧ (0 : Int) ≤ Int32.toInt r52 ∧ Int32.toInt r52 ≤ (9 : Int) ∧ (Int32.toInt (v53 37 0 3) = Int32.toInt (w55 37 0 3)) ∧ (Int32.toInt (v53 37 0 4) = Int32.toInt (w55 37 0 4)) ∧ (Int32.toInt (w55 30 0 8) < 0 ∨ 0 ≤ Int32.toInt (v53 30 0 8)) ∧ (Int32.toInt r52 ≤ Int32.toInt 9) := hr52
    obtain ⟨hI_v53, hr52⟩ := hr52
    have : ((v53 36 0 3).toInt = 0 ∧ (v53 36 0 4).toInt = 0) ∨ (0 < (v53 36 0 3).toInt ∧ 0 < (v53 36 0 4).toInt) := hI_v53.2.1
    have : (0 : Int) ≤ (w55 37 0 3).toInt ∧ (w55 37 0 3).toInt ≤ (6 : Int) := hI_w55.1 37 0 3
    have : (0 : Int) ≤ (w55 37 0 4).toInt ∧ (w55 37 0 4).toInt ≤ (4 : Int) := hI_w55.1 37 0 4
    have : (-1 : Int) ≤ (w55 30 0 8).toInt ∧ (w55 30 0 8).toInt ≤ (100 : Int) := hI_w55.1 30 0 8
    have : (0 : Int32).toInt = 0 := (by decide)
    have : (9 : Int32).toInt = 9 := (by decide)
    refine ok_ite _ (fun c54 => ?_) (fun c54 => ?_)
    · skip
      have ic54 := i_eq c54
      have : (0 : Int) ≤ (v53 30 0 11).toInt ∧ (v53 30 0 11).toInt ≤ (5 : Int) := hI_v53.1 30 0 11
      have : (4 : Int32).toInt = 4 := (by decide)
      refine ok_kb2 (k_X8_takes v53 hI_v53 1 1 ) (fun r56 v57 hr56 => ?_)
      have hr56 : IM v57 ∧ (Int32.toInt (v57 37 0 3) = Int32.toInt (v53 37 0 3)) ∧ (Int32.toInt (v57 37 0 4) = Int32.toInt (v53 37 0 4)) ∧ (Int32.toInt (v53 30 0 8) < 0 ∨ 0 ≤ Int32.toInt (v57 30 0 8)) ∧ (¬ Int32.toInt 1 = 0 ∨ 0 ≤ Int32.toInt (v57 30 0 8)) ∧ (Int32.toInt r56 = 0 ∨ (Int32.toInt r56 = Int32.toInt (v53 30 0 12) ∧ ¬ Int32.toInt 1 = 0)) := hr56
      obtain ⟨hI_v57, hr56⟩ := hr56
      have : ((v57 36 0 3).toInt = 0 ∧ (v57 36 0 4).toInt = 0) ∨ (0 < (v57 36 0 3).toInt ∧ 0 < (v57 36 0 4).toInt) := hI_v57.2.1
      have : (0 : Int) ≤ (v53 37 0 3).toInt ∧ (v53 37 0 3).toInt ≤ (6 : Int) := hI_v53.1 37 0 3
      have : (0 : Int) ≤ (v53 37 0 4).toInt ∧ (v53 37 0 4).toInt ≤ (4 : Int) := hI_v53.1 37 0 4
      have : (-1 : Int) ≤ (v53 30 0 8).toInt ∧ (v53 30 0 8).toInt ≤ (100 : Int) := hI_v53.1 30 0 8
      have : (1 : Int32).toInt = 1 := (by decide)
      exact join82 v57 x1_55 x2_55 r52 hI_v57 (by omega) (by omega) (by omega) (by omega) (by omega)
    · skip
      have ic54 := i_ne c54
      have : (0 : Int) ≤ (v53 30 0 11).toInt ∧ (v53 30 0 11).toInt ≤ (5 : Int) := hI_v53.1 30 0 11
      have : (4 : Int32).toInt = 4 := (by decide)
      refine ok_kb2 (k_X8_takes v53 hI_v53 0 1 ) (fun r59 v60 hr59 => ?_)
      have hr59 : IM v60 ∧ (Int32.toInt (v60 37 0 3) = Int32.toInt (v53 37 0 3)) ∧ (Int32.toInt (v60 37 0 4) = Int32.toInt (v53 37 0 4)) ∧ (Int32.toInt (v53 30 0 8) < 0 ∨ 0 ≤ Int32.toInt (v60 30 0 8)) ∧ (¬ Int32.toInt 0 = 0 ∨ 0 ≤ Int32.toInt (v60 30 0 8)) ∧ (Int32.toInt r59 = 0 ∨ (Int32.toInt r59 = Int32.toInt (v53 30 0 12) ∧ ¬ Int32.toInt 0 = 0)) := hr59
      obtain ⟨hI_v60, hr59⟩ := hr59
      have : ((v60 36 0 3).toInt = 0 ∧ (v60 36 0 4).toInt = 0) ∨ (0 < (v60 36 0 3).toInt ∧ 0 < (v60 36 0 4).toInt) := hI_v60.2.1
      have : (0 : Int) ≤ (v53 37 0 3).toInt ∧ (v53 37 0 3).toInt ≤ (6 : Int) := hI_v53.1 37 0 3
      have : (0 : Int) ≤ (v53 37 0 4).toInt ∧ (v53 37 0 4).toInt ≤ (4 : Int) := hI_v53.1 37 0 4
      have : (-1 : Int) ≤ (v53 30 0 8).toInt ∧ (v53 30 0 8).toInt ≤ (100 : Int) := hI_v53.1 30 0 8
      have : (0 : Int32).toInt = 0 := (by decide)
      have : (1 : Int32).toInt = 1 := (by decide)
      exact join82 v60 x1_55 x2_55 r52 hI_v60 (by omega) (by omega) (by omega) (by omega) (by omega)
  have join29 : ∀ (w29 : Mm) (x1_29 : Int32), (IM w29) → (Int32.toInt (w29 37 0 3) = Int32.toInt (v 37 0 3)) → (Int32.toInt (w29 37 0 4) = Int32.toInt (v 37 0 4)) → (Int32.toInt (v 30 0 8) < 0 ∨ 0 ≤ Int32.toInt (w29 30 0 8)) → (Int32.toInt (v 37 0 4) ≤ 3 ∨ 0 ≤ Int32.toInt (w29 30 0 8)) →  ok (if 4 ≤ w29 37 0 4 then (kb2 (g_X8_figure w29 0 9) (fun r63 v64 => if v64 30 0 11 = 4 then (kb2 (g_X8_takes v64 1 1) (fun r67 v68 => Option.bind (g_X8_isWell v68) (fun r70 => if r70 = 0 then (some v68) else (if (26 : Int32) + ((3 : Int32) * 0) < 0 ∨ 65 ≤ Int32.toNatClampNeg ((26 : Int32) + ((3 : Int32) * 0)) then none else (Option.bind (some (up3 v68 37 0 (Int32.toNatClampNeg ((26 : Int32) + ((3 : Int32) * 0))) x1_29)) (fun v74 => if ((26 : Int32) + ((3 : Int32) * 0)) + 1 < 0 ∨ 65 ≤ Int32.toNatClampNeg (((26 : Int32) + ((3 : Int32) * 0)) + 1) then none else (Option.bind (some (up3 v74 37 0 (Int32.toNatClampNeg (((26 : Int32) + ((3 : Int32) * 0)) + 1)) r63)) (fun v76 => Option.bind (some (up3 v76 37 0 6 ((v76 37 0 6) ||| ((1 : Int32) <<< ((v76 37 0 4) &&& 31))))) (fun v77 => Option.bind (some (up3 v77 37 0 4 ((v77 37 0 4) + 1))) (fun v78 => some v78)))))))))) else (kb2 (g_X8_takes v64 0 1) (fun r80 v81 => Option.bind (g_X8_isWell v81) (fun r83 => if r83 = 0 then (some v81) else (if (26 : Int32) + ((3 : Int32) * 0) < 0 ∨ 65 ≤ Int32.toNatClampNeg ((26 : Int32) + ((3 : Int32) * 0)) then none else (Option.bind (some (up3 v81 37 0 (Int32.toNatClampNeg ((26 : Int32) + ((3 : Int32) * 0))) x1_29)) (fun v87 => if ((26 : Int32) + ((3 : Int32) * 0)) + 1 < 0 ∨ 65 ≤ Int32.toNatClampNeg (((26 : Int32) + ((3 : Int32) * 0)) + 1) then none else (Option.bind (some (up3 v87 37 0 (Int32.toNatClampNeg (((26 : Int32) + ((3 : Int32) * 0)) + 1)) r63)) (fun v89 => Option.bind (some (up3 v89 37 0 6 ((v89 37 0 6) ||| ((1 : Int32) <<< ((v89 37 0 4) &&& 31))))) (fun v90 => Option.bind (some (up3 v90 37 0 4 ((v90 37 0 4) + 1))) (fun v91 => some v91)))))))))))) else (Option.bind (some ((26 : Int32) + ((3 : Int32) * (w29 37 0 4)))) (fun x92 => kb2 (g_X8_figure w29 0 9) (fun r94 v95 => if v95 30 0 11 = 4 then (kb2 (g_X8_takes v95 1 1) (fun r98 v99 => Option.bind (g_X8_isWell v99) (fun r101 => if r101 = 0 then (some v99) else (if x92 < 0 ∨ 65 ≤ Int32.toNatClampNeg x92 then none else (Option.bind (some (up3 v99 37 0 (Int32.toNatClampNeg x92) x1_29)) (fun v105 => if x92 + 1 < 0 ∨ 65 ≤ Int32.toNatClampNeg (x92 + 1) then none else (Option.bind (some (up3 v105 37 0 (Int32.toNatClampNeg (x92 + 1)) r94)) (fun v107 => Option.bind (some (up3 v107 37 0 6 ((v107 37 0 6) ||| ((1 : Int32) <<< ((v107 37 0 4) &&& 31))))) (fun v108 => Option.bind (some (up3 v108 37 0 4 ((v108 37 0 4) + 1))) (fun v109 => some v109)))))))))) else (kb2 (g_X8_takes v95 0 1) (fun r111 v112 => Option.bind (g_X8_isWell v112) (fun r114 => if r114 = 0 then (some v112) else (if x92 < 0 ∨ 65 ≤ Int32.toNatClampNeg x92 then none else (Option.bind (some (up3 v112 37 0 (Int32.toNatClampNeg x92) x1_29)) (fun v118 => if x92 + 1 < 0 ∨ 65 ≤ Int32.toNatClampNeg (x92 + 1) then none else (Option.bind (some (up3 v118 37 0 (Int32.toNatClampNeg (x92 + 1)) r94)) (fun v120 => Option.bind (some (up3 v120 37 0 6 ((v120 37 0 6) ||| ((1 : Int32) <<< ((v120 37 0 4) &&& 31))))) (fun v121 => Option.bind (some (up3 v121 37 0 4 ((v121 37 0 4) + 1))) (fun v122 => some v122)))))))))))))) (fun z => IM z ∧ (Int32.toInt (z 37 0 3) = Int32.toInt (v 37 0 3)) ∧ ((Int32.toInt (v 30 0 8) < 0 ∧ Int32.toInt (z 37 0 4) = Int32.toInt (v 37 0 4) + 1) ∨ 0 ≤ Int32.toInt (z 30 0 8))) := by
    intro w29 x1_29 hI_w29 hv0_29 hv1_29 hv2_29 hv3_29
    have : ((w29 36 0 3).toInt = 0 ∧ (w29 36 0 4).toInt = 0) ∨ (0 < (w29 36 0 3).toInt ∧ 0 < (w29 36 0 4).toInt) := hI_w29.2.1
    have : (0 : Int) ≤ (w29 37 0 3).toInt ∧ (w29 37 0 3).toInt ≤ (6 : Int) := hI_w29.1 37 0 3
    have : (0 : Int) ≤ (v 37 0 3).toInt ∧ (v 37 0 3).toInt ≤ (6 : Int) := hI_v.1 37 0 3
    have : (0 : Int) ≤ (w29 37 0 4).toInt ∧ (w29 37 0 4).toInt ≤ (4 : Int) := hI_w29.1 37 0 4
    have : (0 : Int) ≤ (v 37 0 4).toInt ∧ (v 37 0 4).toInt ≤ (4 : Int) := hI_v.1 37 0 4
    have : (-1 : Int) ≤ (v 30 0 8).toInt ∧ (v 30 0 8).toInt ≤ (100 : Int) := hI_v.1 30 0 8
    have : (-1 : Int) ≤ (w29 30 0 8).toInt ∧ (w29 30 0 8).toInt ≤ (100 : Int) := hI_w29.1 30 0 8
    refine ok_ite _ (fun c123 => ?_) (fun c123 => ?_)
    · skip
      have ic123 := i_le c123
      have : (0 : Int) ≤ (w29 37 0 4).toInt ∧ (w29 37 0 4).toInt ≤ (4 : Int) := hI_w29.1 37 0 4
      have : (4 : Int32).toInt = 4 := (by decide)
      have : (26 : Int32).toInt = 26 := (by decide)
      have : (3 : Int32).toInt = 3 := (by decide)
      have : (0 : Int32).toInt = 0 := (by decide)
      (first | have := sp_mulcx (3 : Int32) (0 : Int32) 0 (by decide) (by omega) | obtain ⟨k51, hk51⟩ := sp_mulc (3 : Int32) (0 : Int32) 0 (by decide))
      (first | have := sp_addx (26 : Int32) ((3 : Int32) * 0) (by omega) | obtain ⟨k52, hk52⟩ := sp_add (26 : Int32) ((3 : Int32) * 0))
      exact join55 w29 x1_29 ((26 : Int32) + ((3 : Int32) * 0)) hI_w29 (by omega) (by omega) (by omega) (by omega) (by omega)
    · skip
      have ic123 := i_nle c123
      have : (0 : Int) ≤ (w29 37 0 4).toInt ∧ (w29 37 0 4).toInt ≤ (4 : Int) := hI_w29.1 37 0 4
      have : (4 : Int32).toInt = 4 := (by decide)
      refine ok_let (fun x124 ex124 => ?_)
      have : (26 : Int32).toInt = 26 := (by decide)
      have : (3 : Int32).toInt = 3 := (by decide)
      have : (0 : Int) ≤ (w29 37 0 4).toInt ∧ (w29 37 0 4).toInt ≤ (4 : Int) := hI_w29.1 37 0 4
      (first | have := sp_cmulx (3 : Int32) (w29 37 0 4) 3 (by decide) (by omega) | obtain ⟨k53, hk53⟩ := sp_cmul (3 : Int32) (w29 37 0 4) 3 (by decide))
      (first | have := sp_addx (26 : Int32) ((3 : Int32) * (w29 37 0 4)) (by omega) | obtain ⟨k54, hk54⟩ := sp_add (26 : Int32) ((3 : Int32) * (w29 37 0 4)))
      have := i_eq ex124
      exact join55 w29 x1_29 x124 hI_w29 (by omega) (by omega) (by omega) (by omega) (by omega)
  unfold g_X8_readsGuard
  try rw [tc_4]
  try rw [tc_6]
  refine ok_bind (k_X8_kindOf v hI_v (v 30 0 12) ) (fun r126 hr126 => ?_)
  have hr126 : ((Int32.toInt r126 = 0 ∧ ¬ (Int32.toInt (v 30 0 12) = 107 ∨ Int32.toInt (v 30 0 12) = 115 ∨ Int32.toInt (v 30 0 12) = 101 ∨ Int32.toInt (v 30 0 12) = 100 ∨ Int32.toInt (v 30 0 12) = 103)) ∨ (1 ≤ Int32.toInt r126 ∧ (Int32.toInt (v 30 0 12) = 107 ∨ Int32.toInt (v 30 0 12) = 115 ∨ Int32.toInt (v 30 0 12) = 101 ∨ Int32.toInt (v 30 0 12) = 100 ∨ Int32.toInt (v 30 0 12) = 103))) := hr126
  refine ok_ite _ (fun c128 => ?_) (fun c128 => ?_)
  · skip
    have ic128 := i_le c128
    have : (0 : Int) ≤ (v 37 0 4).toInt ∧ (v 37 0 4).toInt ≤ (4 : Int) := hI_v.1 37 0 4
    have : (4 : Int32).toInt = 4 := (by decide)
    refine ok_kb2 (k_X8_takes v hI_v 0 3 ) (fun r130 v131 hr130 => ?_)
    have hr130 : IM v131 ∧ (Int32.toInt (v131 37 0 3) = Int32.toInt (v 37 0 3)) ∧ (Int32.toInt (v131 37 0 4) = Int32.toInt (v 37 0 4)) ∧ (Int32.toInt (v 30 0 8) < 0 ∨ 0 ≤ Int32.toInt (v131 30 0 8)) ∧ (¬ Int32.toInt 0 = 0 ∨ 0 ≤ Int32.toInt (v131 30 0 8)) ∧ (Int32.toInt r130 = 0 ∨ (Int32.toInt r130 = Int32.toInt (v 30 0 12) ∧ ¬ Int32.toInt 0 = 0)) := hr130
    obtain ⟨hI_v131, hr130⟩ := hr130
    have : ((v131 36 0 3).toInt = 0 ∧ (v131 36 0 4).toInt = 0) ∨ (0 < (v131 36 0 3).toInt ∧ 0 < (v131 36 0 4).toInt) := hI_v131.2.1
    have : (0 : Int) ≤ (v 37 0 3).toInt ∧ (v 37 0 3).toInt ≤ (6 : Int) := hI_v.1 37 0 3
    have : (0 : Int) ≤ (v 37 0 4).toInt ∧ (v 37 0 4).toInt ≤ (4 : Int) := hI_v.1 37 0 4
    have : (-1 : Int) ≤ (v 30 0 8).toInt ∧ (v 30 0 8).toInt ≤ (100 : Int) := hI_v.1 30 0 8
    have : (0 : Int32).toInt = 0 := (by decide)
    have : (3 : Int32).toInt = 3 := (by decide)
    exact join29 v131 r126 hI_v131 (by omega) (by omega) (by omega) (by omega)
  · skip
    have ic128 := i_nle c128
    have : (0 : Int) ≤ (v 37 0 4).toInt ∧ (v 37 0 4).toInt ≤ (4 : Int) := hI_v.1 37 0 4
    have : (4 : Int32).toInt = 4 := (by decide)
    refine ok_kb2 (k_X8_takes v hI_v 1 3 ) (fun r133 v134 hr133 => ?_)
    have hr133 : IM v134 ∧ (Int32.toInt (v134 37 0 3) = Int32.toInt (v 37 0 3)) ∧ (Int32.toInt (v134 37 0 4) = Int32.toInt (v 37 0 4)) ∧ (Int32.toInt (v 30 0 8) < 0 ∨ 0 ≤ Int32.toInt (v134 30 0 8)) ∧ (¬ Int32.toInt 1 = 0 ∨ 0 ≤ Int32.toInt (v134 30 0 8)) ∧ (Int32.toInt r133 = 0 ∨ (Int32.toInt r133 = Int32.toInt (v 30 0 12) ∧ ¬ Int32.toInt 1 = 0)) := hr133
    obtain ⟨hI_v134, hr133⟩ := hr133
    have : ((v134 36 0 3).toInt = 0 ∧ (v134 36 0 4).toInt = 0) ∨ (0 < (v134 36 0 3).toInt ∧ 0 < (v134 36 0 4).toInt) := hI_v134.2.1
    have : (0 : Int) ≤ (v 37 0 3).toInt ∧ (v 37 0 3).toInt ≤ (6 : Int) := hI_v.1 37 0 3
    have : (0 : Int) ≤ (v 37 0 4).toInt ∧ (v 37 0 4).toInt ≤ (4 : Int) := hI_v.1 37 0 4
    have : (-1 : Int) ≤ (v 30 0 8).toInt ∧ (v 30 0 8).toInt ≤ (100 : Int) := hI_v.1 30 0 8
    have : (1 : Int32).toInt = 1 := (by decide)
    have : (3 : Int32).toInt = 3 := (by decide)
    exact join29 v134 r126 hI_v134 (by omega) (by omega) (by omega) (by omega)
set_option maxHeartbeats 4000000 in
theorem k_X8_must (v : Mm) (hI_v : IM v) (a1 : Int32) : ok (g_X8_must v a1) (fun z => IM z ∧ (Int32.toInt (z 37 0 3) = Int32.toInt (v 37 0 3)) ∧ (Int32.toInt (z 37 0 4) = Int32.toInt (v 37 0 4)) ∧ (Int32.toInt (v 30 0 8) < 0 ∨ 0 ≤ Int32.toInt (z 30 0 8)) ∧ (¬ Int32.toInt a1 = 0 ∨ 0 ≤ Int32.toInt (z 30 0 8)) ∧ (Int32.toInt a1 = 0 ∨ (Int32.toInt (z 30 0 11) = Int32.toInt (v 30 0 11) ∧ Int32.toInt (z 30 0 12) = Int32.toInt (v 30 0 12)))) := by
  have : ((v 36 0 3).toInt = 0 ∧ (v 36 0 4).toInt = 0) ∨ (0 < (v 36 0 3).toInt ∧ 0 < (v 36 0 4).toInt) := hI_v.2.1
  unfold g_X8_must
  refine ok_bind (k_X8_isWell v hI_v  ) (fun r2 hr2 => ?_)
  have hr2 : (0 : Int) ≤ Int32.toInt r2 ∧ Int32.toInt r2 ≤ (1 : Int) ∧ ((Int32.toInt r2 = 0 ∧ 0 ≤ Int32.toInt (v 30 0 8)) ∨ (Int32.toInt r2 = 1 ∧ Int32.toInt (v 30 0 8) < 0)) := hr2
  have : (-1 : Int) ≤ (v 30 0 8).toInt ∧ (v 30 0 8).toInt ≤ (100 : Int) := hI_v.1 30 0 8
  refine ok_ite _ (fun c4 => ?_) (fun c4 => ?_)
  · skip
    have ic4 := i_eq c4
    have : (0 : Int32).toInt = 0 := (by decide)
    refine ok_some ?_
    show IM v ∧ (Int32.toInt (v 37 0 3) = Int32.toInt (v 37 0 3)) ∧ (Int32.toInt (v 37 0 4) = Int32.toInt (v 37 0 4)) ∧ (Int32.toInt (v 30 0 8) < 0 ∨ 0 ≤ Int32.toInt (v 30 0 8)) ∧ (¬ Int32.toInt a1 = 0 ∨ 0 ≤ Int32.toInt (v 30 0 8)) ∧ (Int32.toInt a1 = 0 ∨ (Int32.toInt (v 30 0 11) = Int32.toInt (v 30 0 11) ∧ Int32.toInt (v 30 0 12) = Int32.toInt (v 30 0 12)))
    refine ⟨hI_v, ?_⟩
    omega
  · skip
    have ic4 := i_ne c4
    have : (0 : Int32).toInt = 0 := (by decide)
    refine ok_ite _ (fun c5 => ?_) (fun c5 => ?_)
    · skip
      have ic5 := i_eq c5
      have : (0 : Int32).toInt = 0 := (by decide)
      refine ok_kb2 (k_X8_takes v hI_v 0 1 ) (fun r7 v8 hr7 => ?_)
      have hr7 : IM v8 ∧ (Int32.toInt (v8 37 0 3) = Int32.toInt (v 37 0 3)) ∧ (Int32.toInt (v8 37 0 4) = Int32.toInt (v 37 0 4)) ∧ (Int32.toInt (v 30 0 8) < 0 ∨ 0 ≤ Int32.toInt (v8 30 0 8)) ∧ (¬ Int32.toInt 0 = 0 ∨ 0 ≤ Int32.toInt (v8 30 0 8)) ∧ (Int32.toInt r7 = 0 ∨ (Int32.toInt r7 = Int32.toInt (v 30 0 12) ∧ ¬ Int32.toInt 0 = 0)) := hr7
      obtain ⟨hI_v8, hr7⟩ := hr7
      have : ((v8 36 0 3).toInt = 0 ∧ (v8 36 0 4).toInt = 0) ∨ (0 < (v8 36 0 3).toInt ∧ 0 < (v8 36 0 4).toInt) := hI_v8.2.1
      have : (0 : Int) ≤ (v 37 0 3).toInt ∧ (v 37 0 3).toInt ≤ (6 : Int) := hI_v.1 37 0 3
      have : (0 : Int) ≤ (v 37 0 4).toInt ∧ (v 37 0 4).toInt ≤ (4 : Int) := hI_v.1 37 0 4
      have : (-1 : Int) ≤ (v 30 0 8).toInt ∧ (v 30 0 8).toInt ≤ (100 : Int) := hI_v.1 30 0 8
      have : (0 : Int32).toInt = 0 := (by decide)
      have : (1 : Int32).toInt = 1 := (by decide)
      refine ok_some ?_
      show IM v8 ∧ (Int32.toInt (v8 37 0 3) = Int32.toInt (v 37 0 3)) ∧ (Int32.toInt (v8 37 0 4) = Int32.toInt (v 37 0 4)) ∧ (Int32.toInt (v 30 0 8) < 0 ∨ 0 ≤ Int32.toInt (v8 30 0 8)) ∧ (¬ Int32.toInt a1 = 0 ∨ 0 ≤ Int32.toInt (v8 30 0 8)) ∧ (Int32.toInt a1 = 0 ∨ (Int32.toInt (v8 30 0 11) = Int32.toInt (v 30 0 11) ∧ Int32.toInt (v8 30 0 12) = Int32.toInt (v 30 0 12)))
      refine ⟨hI_v8, ?_⟩
      omega
    · skip
      have ic5 := i_ne c5
      have : (0 : Int32).toInt = 0 := (by decide)
      refine ok_some ?_
      show IM v ∧ (Int32.toInt (v 37 0 3) = Int32.toInt (v 37 0 3)) ∧ (Int32.toInt (v 37 0 4) = Int32.toInt (v 37 0 4)) ∧ (Int32.toInt (v 30 0 8) < 0 ∨ 0 ≤ Int32.toInt (v 30 0 8)) ∧ (¬ Int32.toInt a1 = 0 ∨ 0 ≤ Int32.toInt (v 30 0 8)) ∧ (Int32.toInt a1 = 0 ∨ (Int32.toInt (v 30 0 11) = Int32.toInt (v 30 0 11) ∧ Int32.toInt (v 30 0 12) = Int32.toInt (v 30 0 12)))
      refine ⟨hI_v, ?_⟩
      omega
set_option maxHeartbeats 4000000 in
theorem k_X8_gate (v : Mm) (hI_v : IM v)  : ok (g_X8_gate v ) (fun z => IM z.2) := by
  have : ((v 36 0 3).toInt = 0 ∧ (v 36 0 4).toInt = 0) ∨ (0 < (v 36 0 3).toInt ∧ 0 < (v 36 0 4).toInt) := hI_v.2.1
  have join253 : ∀ (w253 : Mm) (x1_253 : Int32), (IM w253) → (0 ≤ Int32.toInt (w253 30 0 8) ∨ (0 < Int32.toInt (w253 37 0 3) ∧ 0 < Int32.toInt (w253 37 0 4))) →  ok (Option.bind (some (up3 w253 30 0 6 0)) (fun v1 => Option.bind (g_X8_isWell v1) (fun r3 => if r3 = 0 then (some (((-1000100)) - (v1 30 0 8), v1)) else (Option.bind (g_X8_copies_37_36 v1 0 0) (fun v8 => Option.bind (some (up3 v8 30 0 17 0)) (fun v9 => some (v9 36 0 3, v9))))))) (fun z => IM z.2) := by
    intro w253 x1_253 hI_w253 hv0_253
    have : ((w253 36 0 3).toInt = 0 ∧ (w253 36 0 4).toInt = 0) ∨ (0 < (w253 36 0 3).toInt ∧ 0 < (w253 36 0 4).toInt) := hI_w253.2.1
    have : (-1 : Int) ≤ (w253 30 0 8).toInt ∧ (w253 30 0 8).toInt ≤ (100 : Int) := hI_w253.1 30 0 8
    have : (0 : Int) ≤ (w253 37 0 3).toInt ∧ (w253 37 0 3).toInt ≤ (6 : Int) := hI_w253.1 37 0 3
    have : (0 : Int) ≤ (w253 37 0 4).toInt ∧ (w253 37 0 4).toInt ≤ (4 : Int) := hI_w253.1 37 0 4
    refine ok_let (fun v10 ev10 => ?_)
    have hI_v10 : IM v10 := by
      rw [ev10]
      refine hI_w253.upo (by decide) ?_
      show (0 : Int) ≤ Int32.toInt (0 : Int32) ∧ Int32.toInt (0 : Int32) ≤ (100 : Int)
      have : (0 : Int32).toInt = 0 := (by decide)
      omega
    have := i_eq (show v10 30 0 6 = 0 by rw [ev10]; exact up3_s)
    have : (0 : Int32).toInt = 0 := (by decide)
    have := i_eq (show v10 30 0 8 = w253 30 0 8 by rw [ev10]; exact up3_j (by decide))
    have := i_eq (show v10 30 0 9 = w253 30 0 9 by rw [ev10]; exact up3_j (by decide))
    have := i_eq (show v10 30 0 11 = w253 30 0 11 by rw [ev10]; exact up3_j (by decide))
    have := i_eq (show v10 30 0 12 = w253 30 0 12 by rw [ev10]; exact up3_j (by decide))
    have := i_eq (show v10 30 0 17 = w253 30 0 17 by rw [ev10]; exact up3_j (by decide))
    have := i_eq (show v10 36 0 3 = w253 36 0 3 by rw [ev10]; exact up3_t (by decide))
    have := i_eq (show v10 37 0 0 = w253 37 0 0 by rw [ev10]; exact up3_t (by decide))
    have := i_eq (show v10 37 0 1 = w253 37 0 1 by rw [ev10]; exact up3_t (by decide))
    have := i_eq (show v10 37 0 2 = w253 37 0 2 by rw [ev10]; exact up3_t (by decide))
    have := i_eq (show v10 37 0 3 = w253 37 0 3 by rw [ev10]; exact up3_t (by decide))
    have := i_eq (show v10 37 0 4 = w253 37 0 4 by rw [ev10]; exact up3_t (by decide))
    have : ((v10 36 0 3).toInt = 0 ∧ (v10 36 0 4).toInt = 0) ∨ (0 < (v10 36 0 3).toInt ∧ 0 < (v10 36 0 4).toInt) := hI_v10.2.1
    refine ok_bind (k_X8_isWell v10 hI_v10  ) (fun r12 hr12 => ?_)
    have hr12 : (0 : Int) ≤ Int32.toInt r12 ∧ Int32.toInt r12 ≤ (1 : Int) ∧ ((Int32.toInt r12 = 0 ∧ 0 ≤ Int32.toInt (v10 30 0 8)) ∨ (Int32.toInt r12 = 1 ∧ Int32.toInt (v10 30 0 8) < 0)) := hr12
    have : (-1 : Int) ≤ (v10 30 0 8).toInt ∧ (v10 30 0 8).toInt ≤ (100 : Int) := hI_v10.1 30 0 8
    refine ok_ite _ (fun c14 => ?_) (fun c14 => ?_)
    · skip
      have ic14 := i_eq c14
      have : (0 : Int32).toInt = 0 := (by decide)
      refine ok_some ?_
      show IM v10
      have : (-1000100 : Int32).toInt = -1000100 := (by decide)
      have : (-1 : Int) ≤ (v10 30 0 8).toInt ∧ (v10 30 0 8).toInt ≤ (100 : Int) := hI_v10.1 30 0 8
      have := i_bd (v10 30 0 8)
      (first | have := sp_subx (-1000100 : Int32) (v10 30 0 8) (by omega) | obtain ⟨k2, hk2⟩ := sp_sub (-1000100 : Int32) (v10 30 0 8))
      exact hI_v10
    · skip
      have ic14 := i_ne c14
      have : (0 : Int32).toInt = 0 := (by decide)
      refine ok_bind (k_X8_copies_37_36 v10 hI_v10 0 0 (by have : (0 : Int32).toInt = 0 := (by decide); omega) (by have : (0 : Int32).toInt = 0 := (by decide); omega) (by omega)) (fun v17 hr16 => ?_)
      have hr16 : IM v17 := hr16
      have hI_v17 := hr16
      have : ((v17 36 0 3).toInt = 0 ∧ (v17 36 0 4).toInt = 0) ∨ (0 < (v17 36 0 3).toInt ∧ 0 < (v17 36 0 4).toInt) := hI_v17.2.1
      refine ok_let (fun v18 ev18 => ?_)
      have hI_v18 : IM v18 := by
        rw [ev18]
        refine hI_v17.upo (by decide) ?_
        show (0 : Int) ≤ Int32.toInt (0 : Int32) ∧ Int32.toInt (0 : Int32) ≤ (24 : Int)
        have : (0 : Int32).toInt = 0 := (by decide)
        omega
      have := i_eq (show v18 30 0 6 = v17 30 0 6 by rw [ev18]; exact up3_j (by decide))
      have := i_eq (show v18 30 0 8 = v17 30 0 8 by rw [ev18]; exact up3_j (by decide))
      have := i_eq (show v18 30 0 9 = v17 30 0 9 by rw [ev18]; exact up3_j (by decide))
      have := i_eq (show v18 30 0 11 = v17 30 0 11 by rw [ev18]; exact up3_j (by decide))
      have := i_eq (show v18 30 0 12 = v17 30 0 12 by rw [ev18]; exact up3_j (by decide))
      have := i_eq (show v18 30 0 17 = 0 by rw [ev18]; exact up3_s)
      have : (0 : Int32).toInt = 0 := (by decide)
      have := i_eq (show v18 36 0 3 = v17 36 0 3 by rw [ev18]; exact up3_t (by decide))
      have := i_eq (show v18 37 0 0 = v17 37 0 0 by rw [ev18]; exact up3_t (by decide))
      have := i_eq (show v18 37 0 1 = v17 37 0 1 by rw [ev18]; exact up3_t (by decide))
      have := i_eq (show v18 37 0 2 = v17 37 0 2 by rw [ev18]; exact up3_t (by decide))
      have := i_eq (show v18 37 0 3 = v17 37 0 3 by rw [ev18]; exact up3_t (by decide))
      have := i_eq (show v18 37 0 4 = v17 37 0 4 by rw [ev18]; exact up3_t (by decide))
      have : ((v18 36 0 3).toInt = 0 ∧ (v18 36 0 4).toInt = 0) ∨ (0 < (v18 36 0 3).toInt ∧ 0 < (v18 36 0 4).toInt) := hI_v18.2.1
      refine ok_some ?_
      show IM v18
      have : (0 : Int) ≤ (v18 36 0 3).toInt ∧ (v18 36 0 3).toInt ≤ (6 : Int) := hI_v18.1 36 0 3
      exact hI_v18
  have join237 : ∀ (w237 : Mm) (x1_237 : Int32), (IM w237) → (0 ≤ Int32.toInt (w237 30 0 8) ∨ (0 < Int32.toInt (w237 37 0 3) ∧ 0 < Int32.toInt (w237 37 0 4))) →  ok (if w237 30 0 11 = 0 then (Option.bind (g_X8_must w237 1) (fun v22 => Option.bind (some (up3 v22 30 0 6 0)) (fun v23 => Option.bind (g_X8_isWell v23) (fun r25 => if r25 = 0 then (some (((-1000100)) - (v23 30 0 8), v23)) else (Option.bind (g_X8_copies_37_36 v23 0 0) (fun v30 => Option.bind (some (up3 v30 30 0 17 0)) (fun v31 => some (v31 36 0 3, v31)))))))) else (Option.bind (g_X8_must w237 0) (fun v34 => Option.bind (some (up3 v34 30 0 6 0)) (fun v35 => Option.bind (g_X8_isWell v35) (fun r37 => if r37 = 0 then (some (((-1000100)) - (v35 30 0 8), v35)) else (Option.bind (g_X8_copies_37_36 v35 0 0) (fun v42 => Option.bind (some (up3 v42 30 0 17 0)) (fun v43 => some (v43 36 0 3, v43))))))))) (fun z => IM z.2) := by
    intro w237 x1_237 hI_w237 hv0_237
    have : ((w237 36 0 3).toInt = 0 ∧ (w237 36 0 4).toInt = 0) ∨ (0 < (w237 36 0 3).toInt ∧ 0 < (w237 36 0 4).toInt) := hI_w237.2.1
    have : (-1 : Int) ≤ (w237 30 0 8).toInt ∧ (w237 30 0 8).toInt ≤ (100 : Int) := hI_w237.1 30 0 8
    have : (0 : Int) ≤ (w237 37 0 3).toInt ∧ (w237 37 0 3).toInt ≤ (6 : Int) := hI_w237.1 37 0 3
    have : (0 : Int) ≤ (w237 37 0 4).toInt ∧ (w237 37 0 4).toInt ≤ (4 : Int) := hI_w237.1 37 0 4
    refine ok_ite _ (fun c44 => ?_) (fun c44 => ?_)
    · skip
      have ic44 := i_eq c44
      have : (0 : Int) ≤ (w237 30 0 11).toInt ∧ (w237 30 0 11).toInt ≤ (5 : Int) := hI_w237.1 30 0 11
      have : (0 : Int32).toInt = 0 := (by decide)
      refine ok_bind (k_X8_must w237 hI_w237 1 ) (fun v47 hr46 => ?_)
      have hr46 : IM v47 ∧ (Int32.toInt (v47 37 0 3) = Int32.toInt (w237 37 0 3)) ∧ (Int32.toInt (v47 37 0 4) = Int32.toInt (w237 37 0 4)) ∧ (Int32.toInt (w237 30 0 8) < 0 ∨ 0 ≤ Int32.toInt (v47 30 0 8)) ∧ (¬ Int32.toInt 1 = 0 ∨ 0 ≤ Int32.toInt (v47 30 0 8)) ∧ (Int32.toInt 1 = 0 ∨ (Int32.toInt (v47 30 0 11) = Int32.toInt (w237 30 0 11) ∧ Int32.toInt (v47 30 0 12) = Int32.toInt (w237 30 0 12))) := hr46
      obtain ⟨hI_v47, hr46⟩ := hr46
      have : ((v47 36 0 3).toInt = 0 ∧ (v47 36 0 4).toInt = 0) ∨ (0 < (v47 36 0 3).toInt ∧ 0 < (v47 36 0 4).toInt) := hI_v47.2.1
      have : (0 : Int) ≤ (w237 37 0 3).toInt ∧ (w237 37 0 3).toInt ≤ (6 : Int) := hI_w237.1 37 0 3
      have : (0 : Int) ≤ (w237 37 0 4).toInt ∧ (w237 37 0 4).toInt ≤ (4 : Int) := hI_w237.1 37 0 4
      have : (-1 : Int) ≤ (w237 30 0 8).toInt ∧ (w237 30 0 8).toInt ≤ (100 : Int) := hI_w237.1 30 0 8
      have : (0 : Int) ≤ (w237 30 0 11).toInt ∧ (w237 30 0 11).toInt ≤ (5 : Int) := hI_w237.1 30 0 11
      have : (1 : Int32).toInt = 1 := (by decide)
      exact join253 v47 x1_237 hI_v47 (by omega)
    · skip
      have ic44 := i_ne c44
      have : (0 : Int) ≤ (w237 30 0 11).toInt ∧ (w237 30 0 11).toInt ≤ (5 : Int) := hI_w237.1 30 0 11
      have : (0 : Int32).toInt = 0 := (by decide)
      refine ok_bind (k_X8_must w237 hI_w237 0 ) (fun v50 hr49 => ?_)
      have hr49 : IM v50 ∧ (Int32.toInt (v50 37 0 3) = Int32.toInt (w237 37 0 3)) ∧ (Int32.toInt (v50 37 0 4) = Int32.toInt (w237 37 0 4)) ∧ (Int32.toInt (w237 30 0 8) < 0 ∨ 0 ≤ Int32.toInt (v50 30 0 8)) ∧ (¬ Int32.toInt 0 = 0 ∨ 0 ≤ Int32.toInt (v50 30 0 8)) ∧ (Int32.toInt 0 = 0 ∨ (Int32.toInt (v50 30 0 11) = Int32.toInt (w237 30 0 11) ∧ Int32.toInt (v50 30 0 12) = Int32.toInt (w237 30 0 12))) := hr49
      obtain ⟨hI_v50, hr49⟩ := hr49
      have : ((v50 36 0 3).toInt = 0 ∧ (v50 36 0 4).toInt = 0) ∨ (0 < (v50 36 0 3).toInt ∧ 0 < (v50 36 0 4).toInt) := hI_v50.2.1
      have : (0 : Int) ≤ (w237 37 0 3).toInt ∧ (w237 37 0 3).toInt ≤ (6 : Int) := hI_w237.1 37 0 3
      have : (0 : Int) ≤ (w237 37 0 4).toInt ∧ (w237 37 0 4).toInt ≤ (4 : Int) := hI_w237.1 37 0 4
      have : (-1 : Int) ≤ (w237 30 0 8).toInt ∧ (w237 30 0 8).toInt ≤ (100 : Int) := hI_w237.1 30 0 8
      have : (0 : Int) ≤ (w237 30 0 11).toInt ∧ (w237 30 0 11).toInt ≤ (5 : Int) := hI_w237.1 30 0 11
      have : (0 : Int32).toInt = 0 := (by decide)
      exact join253 v50 x1_237 hI_v50 (by omega)
  have loop205 : ∀ (n205 : Nat) (w205 : Mm) (x1_205 : Int32), (IM w205) → (0 ≤ Int32.toInt (w205 30 0 8) ∨ 0 < Int32.toInt (w205 37 0 3)) → (0 ≤ Int32.toInt (w205 30 0 8) ∨ 0 < Int32.toInt (w205 37 0 4) ∨ (Int32.toInt (w205 30 0 11) = 1 ∧ (Int32.toInt (w205 30 0 12) = 107 ∨ Int32.toInt (w205 30 0 12) = 115 ∨ Int32.toInt (w205 30 0 12) = 101 ∨ Int32.toInt (w205 30 0 12) = 100 ∨ Int32.toInt (w205 30 0 12) = 103))) → (5 - Int32.toInt (w205 37 0 4) < (n205 : Int) ∨ (0 ≤ Int32.toInt (w205 30 0 8) ∧ 0 < (n205 : Int))) → ok (g_X8_gate_L205   n205 w205 x1_205) (fun z => IM z.2) := by
    intro n205
    induction n205 with
    | zero =>
      intro w205 x1_205 hI_w205 hv0_205 hv1_205 hm205
      exfalso
      have : (-1 : Int) ≤ (w205 30 0 8).toInt ∧ (w205 30 0 8).toInt ≤ (100 : Int) := hI_w205.1 30 0 8
      have : (0 : Int) ≤ (w205 37 0 3).toInt ∧ (w205 37 0 3).toInt ≤ (6 : Int) := hI_w205.1 37 0 3
      have : (0 : Int) ≤ (w205 37 0 4).toInt ∧ (w205 37 0 4).toInt ≤ (4 : Int) := hI_w205.1 37 0 4
      have : (0 : Int) ≤ (w205 30 0 11).toInt ∧ (w205 30 0 11).toInt ≤ (5 : Int) := hI_w205.1 30 0 11
      omega
    | succ n205 ih205 =>
      intro w205 x1_205 hI_w205 hv0_205 hv1_205 hm205
      show ok (b_X8_gate_L205  (g_X8_gate_L205   n205)  w205 x1_205) _
      unfold b_X8_gate_L205
      try rw [tc_0]
      try rw [tc_1]
      try rw [tc_2]
      try rw [tc_3]
      have : ((w205 36 0 3).toInt = 0 ∧ (w205 36 0 4).toInt = 0) ∨ (0 < (w205 36 0 3).toInt ∧ 0 < (w205 36 0 4).toInt) := hI_w205.2.1
      have : (-1 : Int) ≤ (w205 30 0 8).toInt ∧ (w205 30 0 8).toInt ≤ (100 : Int) := hI_w205.1 30 0 8
      have : (0 : Int) ≤ (w205 37 0 3).toInt ∧ (w205 37 0 3).toInt ≤ (6 : Int) := hI_w205.1 37 0 3
      have : (0 : Int) ≤ (w205 37 0 4).toInt ∧ (w205 37 0 4).toInt ≤ (4 : Int) := hI_w205.1 37 0 4
      have : (0 : Int) ≤ (w205 30 0 11).toInt ∧ (w205 30 0 11).toInt ≤ (5 : Int) := hI_w205.1 30 0 11
      refine ok_bind (k_X8_isWell w205 hI_w205  ) (fun r52 hr52 => ?_)
      have hr52 : (0 : Int) ≤ Int32.toInt r52 ∧ Int32.toInt r52 ≤ (1 : Int) ∧ ((Int32.toInt r52 = 0 ∧ 0 ≤ Int32.toInt (w205 30 0 8)) ∨ (Int32.toInt r52 = 1 ∧ Int32.toInt (w205 30 0 8) < 0)) := hr52
      have : (-1 : Int) ≤ (w205 30 0 8).toInt ∧ (w205 30 0 8).toInt ≤ (100 : Int) := hI_w205.1 30 0 8
      refine ok_ite _ (fun c54 => ?_) (fun c54 => ?_)
      · skip
        have ic54 := i_eq c54
        have : (0 : Int32).toInt = 0 := (by decide)
        exact join237 w205 x1_205 hI_w205 (by omega)
      · skip
        have ic54 := i_ne c54
        have : (0 : Int32).toInt = 0 := (by decide)
        refine ok_ite _ (fun c55 => ?_) (fun c55 => ?_)
        · skip
          have ic55 := i_eq c55
          have : (0 : Int) ≤ (w205 30 0 11).toInt ∧ (w205 30 0 11).toInt ≤ (5 : Int) := hI_w205.1 30 0 11
          have : (1 : Int32).toInt = 1 := (by decide)
          refine ok_bind (k_X8_kindOf w205 hI_w205 (w205 30 0 12) ) (fun r57 hr57 => ?_)
          have hr57 : ((Int32.toInt r57 = 0 ∧ ¬ (Int32.toInt (w205 30 0 12) = 107 ∨ Int32.toInt (w205 30 0 12) = 115 ∨ Int32.toInt (w205 30 0 12) = 101 ∨ Int32.toInt (w205 30 0 12) = 100 ∨ Int32.toInt (w205 30 0 12) = 103)) ∨ (1 ≤ Int32.toInt r57 ∧ (Int32.toInt (w205 30 0 12) = 107 ∨ Int32.toInt (w205 30 0 12) = 115 ∨ Int32.toInt (w205 30 0 12) = 101 ∨ Int32.toInt (w205 30 0 12) = 100 ∨ Int32.toInt (w205 30 0 12) = 103))) := hr57
          refine ok_ite _ (fun c59 => ?_) (fun c59 => ?_)
          · skip
            have ic59 := i_le c59
            have : (0 : Int32).toInt = 0 := (by decide)
            exact join237 w205 x1_205 hI_w205 (by omega)
          · skip
            have ic59 := i_nle c59
            have : (0 : Int32).toInt = 0 := (by decide)
            refine ok_bind (k_X8_readsGuard w205 hI_w205  ) (fun v62 hr61 => ?_)
            have hr61 : IM v62 ∧ (Int32.toInt (v62 37 0 3) = Int32.toInt (w205 37 0 3)) ∧ ((Int32.toInt (w205 30 0 8) < 0 ∧ Int32.toInt (v62 37 0 4) = Int32.toInt (w205 37 0 4) + 1) ∨ 0 ≤ Int32.toInt (v62 30 0 8)) := hr61
            obtain ⟨hI_v62, hr61⟩ := hr61
            have : ((v62 36 0 3).toInt = 0 ∧ (v62 36 0 4).toInt = 0) ∨ (0 < (v62 36 0 3).toInt ∧ 0 < (v62 36 0 4).toInt) := hI_v62.2.1
            have : (0 : Int) ≤ (w205 37 0 3).toInt ∧ (w205 37 0 3).toInt ≤ (6 : Int) := hI_w205.1 37 0 3
            have : (-1 : Int) ≤ (w205 30 0 8).toInt ∧ (w205 30 0 8).toInt ≤ (100 : Int) := hI_w205.1 30 0 8
            have : (0 : Int) ≤ (w205 37 0 4).toInt ∧ (w205 37 0 4).toInt ≤ (4 : Int) := hI_w205.1 37 0 4
            exact ih205 v62 x1_205 hI_v62 (by omega) (by omega) (by omega)
        · skip
          have ic55 := i_ne c55
          have : (0 : Int) ≤ (w205 30 0 11).toInt ∧ (w205 30 0 11).toInt ≤ (5 : Int) := hI_w205.1 30 0 11
          have : (1 : Int32).toInt = 1 := (by decide)
          exact join237 w205 x1_205 hI_w205 (by omega)
  have join178 : ∀ (w178 : Mm) (x1_178 : Int32), (IM w178) → (0 ≤ Int32.toInt (w178 30 0 8) ∨ 0 < Int32.toInt (w178 37 0 3)) →  ok (if w178 30 0 11 = 1 then (Option.bind (g_X8_kindOf w178 (w178 30 0 12)) (fun r65 => if r65 ≤ 0 then (Option.bind (g_X8_must w178 0) (fun v70 => g_X8_gate_L205   2000 v70 x1_178)) else (Option.bind (g_X8_must w178 1) (fun v73 => g_X8_gate_L205   2000 v73 x1_178)))) else (Option.bind (g_X8_must w178 0) (fun v76 => g_X8_gate_L205   2000 v76 x1_178))) (fun z => IM z.2) := by
    intro w178 x1_178 hI_w178 hv0_178
    have : ((w178 36 0 3).toInt = 0 ∧ (w178 36 0 4).toInt = 0) ∨ (0 < (w178 36 0 3).toInt ∧ 0 < (w178 36 0 4).toInt) := hI_w178.2.1
    have : (-1 : Int) ≤ (w178 30 0 8).toInt ∧ (w178 30 0 8).toInt ≤ (100 : Int) := hI_w178.1 30 0 8
    have : (0 : Int) ≤ (w178 37 0 3).toInt ∧ (w178 37 0 3).toInt ≤ (6 : Int) := hI_w178.1 37 0 3
    refine ok_ite _ (fun c77 => ?_) (fun c77 => ?_)
    · skip
      have ic77 := i_eq c77
      have : (0 : Int) ≤ (w178 30 0 11).toInt ∧ (w178 30 0 11).toInt ≤ (5 : Int) := hI_w178.1 30 0 11
      have : (1 : Int32).toInt = 1 := (by decide)
      refine ok_bind (k_X8_kindOf w178 hI_w178 (w178 30 0 12) ) (fun r79 hr79 => ?_)
      have hr79 : ((Int32.toInt r79 = 0 ∧ ¬ (Int32.toInt (w178 30 0 12) = 107 ∨ Int32.toInt (w178 30 0 12) = 115 ∨ Int32.toInt (w178 30 0 12) = 101 ∨ Int32.toInt (w178 30 0 12) = 100 ∨ Int32.toInt (w178 30 0 12) = 103)) ∨ (1 ≤ Int32.toInt r79 ∧ (Int32.toInt (w178 30 0 12) = 107 ∨ Int32.toInt (w178 30 0 12) = 115 ∨ Int32.toInt (w178 30 0 12) = 101 ∨ Int32.toInt (w178 30 0 12) = 100 ∨ Int32.toInt (w178 30 0 12) = 103))) := hr79
      refine ok_ite _ (fun c81 => ?_) (fun c81 => ?_)
      · skip
        have ic81 := i_le c81
        have : (0 : Int32).toInt = 0 := (by decide)
        refine ok_bind (k_X8_must w178 hI_w178 0 ) (fun v84 hr83 => ?_)
        have hr83 : IM v84 ∧ (Int32.toInt (v84 37 0 3) = Int32.toInt (w178 37 0 3)) ∧ (Int32.toInt (v84 37 0 4) = Int32.toInt (w178 37 0 4)) ∧ (Int32.toInt (w178 30 0 8) < 0 ∨ 0 ≤ Int32.toInt (v84 30 0 8)) ∧ (¬ Int32.toInt 0 = 0 ∨ 0 ≤ Int32.toInt (v84 30 0 8)) ∧ (Int32.toInt 0 = 0 ∨ (Int32.toInt (v84 30 0 11) = Int32.toInt (w178 30 0 11) ∧ Int32.toInt (v84 30 0 12) = Int32.toInt (w178 30 0 12))) := hr83
        obtain ⟨hI_v84, hr83⟩ := hr83
        have : ((v84 36 0 3).toInt = 0 ∧ (v84 36 0 4).toInt = 0) ∨ (0 < (v84 36 0 3).toInt ∧ 0 < (v84 36 0 4).toInt) := hI_v84.2.1
        have : (0 : Int) ≤ (w178 37 0 3).toInt ∧ (w178 37 0 3).toInt ≤ (6 : Int) := hI_w178.1 37 0 3
        have : (0 : Int) ≤ (w178 37 0 4).toInt ∧ (w178 37 0 4).toInt ≤ (4 : Int) := hI_w178.1 37 0 4
        have : (-1 : Int) ≤ (w178 30 0 8).toInt ∧ (w178 30 0 8).toInt ≤ (100 : Int) := hI_w178.1 30 0 8
        have : (0 : Int) ≤ (w178 30 0 11).toInt ∧ (w178 30 0 11).toInt ≤ (5 : Int) := hI_w178.1 30 0 11
        have : (0 : Int32).toInt = 0 := (by decide)
        exact loop205 2000 v84 x1_178 hI_v84 (by omega) (by omega) (by omega)
      · skip
        have ic81 := i_nle c81
        have : (0 : Int32).toInt = 0 := (by decide)
        refine ok_bind (k_X8_must w178 hI_w178 1 ) (fun v87 hr86 => ?_)
        have hr86 : IM v87 ∧ (Int32.toInt (v87 37 0 3) = Int32.toInt (w178 37 0 3)) ∧ (Int32.toInt (v87 37 0 4) = Int32.toInt (w178 37 0 4)) ∧ (Int32.toInt (w178 30 0 8) < 0 ∨ 0 ≤ Int32.toInt (v87 30 0 8)) ∧ (¬ Int32.toInt 1 = 0 ∨ 0 ≤ Int32.toInt (v87 30 0 8)) ∧ (Int32.toInt 1 = 0 ∨ (Int32.toInt (v87 30 0 11) = Int32.toInt (w178 30 0 11) ∧ Int32.toInt (v87 30 0 12) = Int32.toInt (w178 30 0 12))) := hr86
        obtain ⟨hI_v87, hr86⟩ := hr86
        have : ((v87 36 0 3).toInt = 0 ∧ (v87 36 0 4).toInt = 0) ∨ (0 < (v87 36 0 3).toInt ∧ 0 < (v87 36 0 4).toInt) := hI_v87.2.1
        have : (0 : Int) ≤ (w178 37 0 3).toInt ∧ (w178 37 0 3).toInt ≤ (6 : Int) := hI_w178.1 37 0 3
        have : (0 : Int) ≤ (w178 37 0 4).toInt ∧ (w178 37 0 4).toInt ≤ (4 : Int) := hI_w178.1 37 0 4
        have : (-1 : Int) ≤ (w178 30 0 8).toInt ∧ (w178 30 0 8).toInt ≤ (100 : Int) := hI_w178.1 30 0 8
        have : (0 : Int) ≤ (w178 30 0 11).toInt ∧ (w178 30 0 11).toInt ≤ (5 : Int) := hI_w178.1 30 0 11
        have : (1 : Int32).toInt = 1 := (by decide)
        exact loop205 2000 v87 x1_178 hI_v87 (by omega) (by omega) (by omega)
    · skip
      have ic77 := i_ne c77
      have : (0 : Int) ≤ (w178 30 0 11).toInt ∧ (w178 30 0 11).toInt ≤ (5 : Int) := hI_w178.1 30 0 11
      have : (1 : Int32).toInt = 1 := (by decide)
      refine ok_bind (k_X8_must w178 hI_w178 0 ) (fun v90 hr89 => ?_)
      have hr89 : IM v90 ∧ (Int32.toInt (v90 37 0 3) = Int32.toInt (w178 37 0 3)) ∧ (Int32.toInt (v90 37 0 4) = Int32.toInt (w178 37 0 4)) ∧ (Int32.toInt (w178 30 0 8) < 0 ∨ 0 ≤ Int32.toInt (v90 30 0 8)) ∧ (¬ Int32.toInt 0 = 0 ∨ 0 ≤ Int32.toInt (v90 30 0 8)) ∧ (Int32.toInt 0 = 0 ∨ (Int32.toInt (v90 30 0 11) = Int32.toInt (w178 30 0 11) ∧ Int32.toInt (v90 30 0 12) = Int32.toInt (w178 30 0 12))) := hr89
      obtain ⟨hI_v90, hr89⟩ := hr89
      have : ((v90 36 0 3).toInt = 0 ∧ (v90 36 0 4).toInt = 0) ∨ (0 < (v90 36 0 3).toInt ∧ 0 < (v90 36 0 4).toInt) := hI_v90.2.1
      have : (0 : Int) ≤ (w178 37 0 3).toInt ∧ (w178 37 0 3).toInt ≤ (6 : Int) := hI_w178.1 37 0 3
      have : (0 : Int) ≤ (w178 37 0 4).toInt ∧ (w178 37 0 4).toInt ≤ (4 : Int) := hI_w178.1 37 0 4
      have : (-1 : Int) ≤ (w178 30 0 8).toInt ∧ (w178 30 0 8).toInt ≤ (100 : Int) := hI_w178.1 30 0 8
      have : (0 : Int) ≤ (w178 30 0 11).toInt ∧ (w178 30 0 11).toInt ≤ (5 : Int) := hI_w178.1 30 0 11
      have : (0 : Int32).toInt = 0 := (by decide)
      exact loop205 2000 v90 x1_178 hI_v90 (by omega) (by omega) (by omega)
  have loop147 : ∀ (n147 : Nat) (w147 : Mm) (x1_147 : Int32), (IM w147) → (0 ≤ Int32.toInt (w147 30 0 8) ∨ 0 < Int32.toInt (w147 37 0 3) ∨ (Int32.toInt (w147 30 0 11) = 1 ∧ Int32.toInt (w147 30 0 12) = 119)) → (7 - Int32.toInt (w147 37 0 3) < (n147 : Int) ∨ (0 ≤ Int32.toInt (w147 30 0 8) ∧ 0 < (n147 : Int))) → ok (g_X8_gate_L147   n147 w147 x1_147) (fun z => IM z.2) := by
    intro n147
    induction n147 with
    | zero =>
      intro w147 x1_147 hI_w147 hv0_147 hm147
      exfalso
      have : (-1 : Int) ≤ (w147 30 0 8).toInt ∧ (w147 30 0 8).toInt ≤ (100 : Int) := hI_w147.1 30 0 8
      have : (0 : Int) ≤ (w147 37 0 3).toInt ∧ (w147 37 0 3).toInt ≤ (6 : Int) := hI_w147.1 37 0 3
      have : (0 : Int) ≤ (w147 30 0 11).toInt ∧ (w147 30 0 11).toInt ≤ (5 : Int) := hI_w147.1 30 0 11
      omega
    | succ n147 ih147 =>
      intro w147 x1_147 hI_w147 hv0_147 hm147
      show ok (b_X8_gate_L147  (g_X8_gate_L147   n147)  w147 x1_147) _
      unfold b_X8_gate_L147
      try rw [tc_0]
      try rw [tc_1]
      try rw [tc_2]
      try rw [tc_3]
      have : ((w147 36 0 3).toInt = 0 ∧ (w147 36 0 4).toInt = 0) ∨ (0 < (w147 36 0 3).toInt ∧ 0 < (w147 36 0 4).toInt) := hI_w147.2.1
      have : (-1 : Int) ≤ (w147 30 0 8).toInt ∧ (w147 30 0 8).toInt ≤ (100 : Int) := hI_w147.1 30 0 8
      have : (0 : Int) ≤ (w147 37 0 3).toInt ∧ (w147 37 0 3).toInt ≤ (6 : Int) := hI_w147.1 37 0 3
      have : (0 : Int) ≤ (w147 30 0 11).toInt ∧ (w147 30 0 11).toInt ≤ (5 : Int) := hI_w147.1 30 0 11
      refine ok_bind (k_X8_isWell w147 hI_w147  ) (fun r92 hr92 => ?_)
      have hr92 : (0 : Int) ≤ Int32.toInt r92 ∧ Int32.toInt r92 ≤ (1 : Int) ∧ ((Int32.toInt r92 = 0 ∧ 0 ≤ Int32.toInt (w147 30 0 8)) ∨ (Int32.toInt r92 = 1 ∧ Int32.toInt (w147 30 0 8) < 0)) := hr92
      have : (-1 : Int) ≤ (w147 30 0 8).toInt ∧ (w147 30 0 8).toInt ≤ (100 : Int) := hI_w147.1 30 0 8
      refine ok_ite _ (fun c94 => ?_) (fun c94 => ?_)
      · skip
        have ic94 := i_eq c94
        have : (0 : Int32).toInt = 0 := (by decide)
        exact join178 w147 x1_147 hI_w147 (by omega)
      · skip
        have ic94 := i_ne c94
        have : (0 : Int32).toInt = 0 := (by decide)
        refine ok_ite _ (fun c95 => ?_) (fun c95 => ?_)
        · skip
          have ic95 := i_eq c95
          have : (0 : Int) ≤ (w147 30 0 11).toInt ∧ (w147 30 0 11).toInt ≤ (5 : Int) := hI_w147.1 30 0 11
          have : (1 : Int32).toInt = 1 := (by decide)
          refine ok_ite _ (fun c96 => ?_) (fun c96 => ?_)
          · skip
            have ic96 := i_eq c96
            have : (119 : Int32).toInt = 119 := (by decide)
            refine ok_bind (k_X8_readsWord w147 hI_w147  ) (fun v99 hr98 => ?_)
            have hr98 : IM v99 ∧ (Int32.toInt (v99 37 0 4) = Int32.toInt (w147 37 0 4)) ∧ ((Int32.toInt (w147 30 0 8) < 0 ∧ Int32.toInt (v99 37 0 3) = Int32.toInt (w147 37 0 3) + 1) ∨ 0 ≤ Int32.toInt (v99 30 0 8)) := hr98
            obtain ⟨hI_v99, hr98⟩ := hr98
            have : ((v99 36 0 3).toInt = 0 ∧ (v99 36 0 4).toInt = 0) ∨ (0 < (v99 36 0 3).toInt ∧ 0 < (v99 36 0 4).toInt) := hI_v99.2.1
            have : (0 : Int) ≤ (w147 37 0 4).toInt ∧ (w147 37 0 4).toInt ≤ (4 : Int) := hI_w147.1 37 0 4
            have : (-1 : Int) ≤ (w147 30 0 8).toInt ∧ (w147 30 0 8).toInt ≤ (100 : Int) := hI_w147.1 30 0 8
            have : (0 : Int) ≤ (w147 37 0 3).toInt ∧ (w147 37 0 3).toInt ≤ (6 : Int) := hI_w147.1 37 0 3
            exact ih147 v99 x1_147 hI_v99 (by omega) (by omega)
          · skip
            have ic96 := i_ne c96
            have : (119 : Int32).toInt = 119 := (by decide)
            exact join178 w147 x1_147 hI_w147 (by omega)
        · skip
          have ic95 := i_ne c95
          have : (0 : Int) ≤ (w147 30 0 11).toInt ∧ (w147 30 0 11).toInt ≤ (5 : Int) := hI_w147.1 30 0 11
          have : (1 : Int32).toInt = 1 := (by decide)
          exact join178 w147 x1_147 hI_w147 (by omega)
  have join121 : ∀ (w121 : Mm) (x1_121 : Int32), (IM w121) →  ok (if w121 30 0 11 = 1 then (if w121 30 0 12 = 119 then (Option.bind (g_X8_must w121 1) (fun v104 => g_X8_gate_L147   2000 v104 x1_121)) else (Option.bind (g_X8_must w121 0) (fun v107 => g_X8_gate_L147   2000 v107 x1_121))) else (Option.bind (g_X8_must w121 0) (fun v110 => g_X8_gate_L147   2000 v110 x1_121))) (fun z => IM z.2) := by
    intro w121 x1_121 hI_w121
    have : ((w121 36 0 3).toInt = 0 ∧ (w121 36 0 4).toInt = 0) ∨ (0 < (w121 36 0 3).toInt ∧ 0 < (w121 36 0 4).toInt) := hI_w121.2.1
    refine ok_ite _ (fun c111 => ?_) (fun c111 => ?_)
    · skip
      have ic111 := i_eq c111
      have : (0 : Int) ≤ (w121 30 0 11).toInt ∧ (w121 30 0 11).toInt ≤ (5 : Int) := hI_w121.1 30 0 11
      have : (1 : Int32).toInt = 1 := (by decide)
      refine ok_ite _ (fun c112 => ?_) (fun c112 => ?_)
      · skip
        have ic112 := i_eq c112
        have : (119 : Int32).toInt = 119 := (by decide)
        refine ok_bind (k_X8_must w121 hI_w121 1 ) (fun v115 hr114 => ?_)
        have hr114 : IM v115 ∧ (Int32.toInt (v115 37 0 3) = Int32.toInt (w121 37 0 3)) ∧ (Int32.toInt (v115 37 0 4) = Int32.toInt (w121 37 0 4)) ∧ (Int32.toInt (w121 30 0 8) < 0 ∨ 0 ≤ Int32.toInt (v115 30 0 8)) ∧ (¬ Int32.toInt 1 = 0 ∨ 0 ≤ Int32.toInt (v115 30 0 8)) ∧ (Int32.toInt 1 = 0 ∨ (Int32.toInt (v115 30 0 11) = Int32.toInt (w121 30 0 11) ∧ Int32.toInt (v115 30 0 12) = Int32.toInt (w121 30 0 12))) := hr114
        obtain ⟨hI_v115, hr114⟩ := hr114
        have : ((v115 36 0 3).toInt = 0 ∧ (v115 36 0 4).toInt = 0) ∨ (0 < (v115 36 0 3).toInt ∧ 0 < (v115 36 0 4).toInt) := hI_v115.2.1
        have : (0 : Int) ≤ (w121 37 0 3).toInt ∧ (w121 37 0 3).toInt ≤ (6 : Int) := hI_w121.1 37 0 3
        have : (0 : Int) ≤ (w121 37 0 4).toInt ∧ (w121 37 0 4).toInt ≤ (4 : Int) := hI_w121.1 37 0 4
        have : (-1 : Int) ≤ (w121 30 0 8).toInt ∧ (w121 30 0 8).toInt ≤ (100 : Int) := hI_w121.1 30 0 8
        have : (0 : Int) ≤ (w121 30 0 11).toInt ∧ (w121 30 0 11).toInt ≤ (5 : Int) := hI_w121.1 30 0 11
        have : (1 : Int32).toInt = 1 := (by decide)
        exact loop147 2000 v115 x1_121 hI_v115 (by omega) (by omega)
      · skip
        have ic112 := i_ne c112
        have : (119 : Int32).toInt = 119 := (by decide)
        refine ok_bind (k_X8_must w121 hI_w121 0 ) (fun v118 hr117 => ?_)
        have hr117 : IM v118 ∧ (Int32.toInt (v118 37 0 3) = Int32.toInt (w121 37 0 3)) ∧ (Int32.toInt (v118 37 0 4) = Int32.toInt (w121 37 0 4)) ∧ (Int32.toInt (w121 30 0 8) < 0 ∨ 0 ≤ Int32.toInt (v118 30 0 8)) ∧ (¬ Int32.toInt 0 = 0 ∨ 0 ≤ Int32.toInt (v118 30 0 8)) ∧ (Int32.toInt 0 = 0 ∨ (Int32.toInt (v118 30 0 11) = Int32.toInt (w121 30 0 11) ∧ Int32.toInt (v118 30 0 12) = Int32.toInt (w121 30 0 12))) := hr117
        obtain ⟨hI_v118, hr117⟩ := hr117
        have : ((v118 36 0 3).toInt = 0 ∧ (v118 36 0 4).toInt = 0) ∨ (0 < (v118 36 0 3).toInt ∧ 0 < (v118 36 0 4).toInt) := hI_v118.2.1
        have : (0 : Int) ≤ (w121 37 0 3).toInt ∧ (w121 37 0 3).toInt ≤ (6 : Int) := hI_w121.1 37 0 3
        have : (0 : Int) ≤ (w121 37 0 4).toInt ∧ (w121 37 0 4).toInt ≤ (4 : Int) := hI_w121.1 37 0 4
        have : (-1 : Int) ≤ (w121 30 0 8).toInt ∧ (w121 30 0 8).toInt ≤ (100 : Int) := hI_w121.1 30 0 8
        have : (0 : Int) ≤ (w121 30 0 11).toInt ∧ (w121 30 0 11).toInt ≤ (5 : Int) := hI_w121.1 30 0 11
        have : (0 : Int32).toInt = 0 := (by decide)
        exact loop147 2000 v118 x1_121 hI_v118 (by omega) (by omega)
    · skip
      have ic111 := i_ne c111
      have : (0 : Int) ≤ (w121 30 0 11).toInt ∧ (w121 30 0 11).toInt ≤ (5 : Int) := hI_w121.1 30 0 11
      have : (1 : Int32).toInt = 1 := (by decide)
      refine ok_bind (k_X8_must w121 hI_w121 0 ) (fun v121 hr120 => ?_)
      have hr120 : IM v121 ∧ (Int32.toInt (v121 37 0 3) = Int32.toInt (w121 37 0 3)) ∧ (Int32.toInt (v121 37 0 4) = Int32.toInt (w121 37 0 4)) ∧ (Int32.toInt (w121 30 0 8) < 0 ∨ 0 ≤ Int32.toInt (v121 30 0 8)) ∧ (¬ Int32.toInt 0 = 0 ∨ 0 ≤ Int32.toInt (v121 30 0 8)) ∧ (Int32.toInt 0 = 0 ∨ (Int32.toInt (v121 30 0 11) = Int32.toInt (w121 30 0 11) ∧ Int32.toInt (v121 30 0 12) = Int32.toInt (w121 30 0 12))) := hr120
      obtain ⟨hI_v121, hr120⟩ := hr120
      have : ((v121 36 0 3).toInt = 0 ∧ (v121 36 0 4).toInt = 0) ∨ (0 < (v121 36 0 3).toInt ∧ 0 < (v121 36 0 4).toInt) := hI_v121.2.1
      have : (0 : Int) ≤ (w121 37 0 3).toInt ∧ (w121 37 0 3).toInt ≤ (6 : Int) := hI_w121.1 37 0 3
      have : (0 : Int) ≤ (w121 37 0 4).toInt ∧ (w121 37 0 4).toInt ≤ (4 : Int) := hI_w121.1 37 0 4
      have : (-1 : Int) ≤ (w121 30 0 8).toInt ∧ (w121 30 0 8).toInt ≤ (100 : Int) := hI_w121.1 30 0 8
      have : (0 : Int) ≤ (w121 30 0 11).toInt ∧ (w121 30 0 11).toInt ≤ (5 : Int) := hI_w121.1 30 0 11
      have : (0 : Int32).toInt = 0 := (by decide)
      exact loop147 2000 v121 x1_121 hI_v121 (by omega) (by omega)
  have join63 : ∀ (w63 : Mm) (x1_63 : Int32), (IM w63) →  ok (kb2 (g_X8_figure w63 0 9) (fun r123 v124 => Option.bind (some (up3 v124 37 0 0 r123)) (fun v125 => kb2 (g_X8_follows v125 0 9) (fun r127 v128 => Option.bind (some (up3 v128 37 0 1 r127)) (fun v129 => kb2 (g_X8_follows v129 0 6) (fun r131 v132 => Option.bind (some (up3 v132 37 0 2 r131)) (fun v133 => if v133 30 0 11 = 4 then (kb2 (g_X8_takes v133 1 1) (fun r136 v137 => if v137 30 0 11 = 1 then (if v137 30 0 12 = 119 then (Option.bind (g_X8_must v137 1) (fun v142 => g_X8_gate_L147   2000 v142 x1_63)) else (Option.bind (g_X8_must v137 0) (fun v145 => g_X8_gate_L147   2000 v145 x1_63))) else (Option.bind (g_X8_must v137 0) (fun v148 => g_X8_gate_L147   2000 v148 x1_63)))) else (kb2 (g_X8_takes v133 0 1) (fun r150 v151 => if v151 30 0 11 = 1 then (if v151 30 0 12 = 119 then (Option.bind (g_X8_must v151 1) (fun v156 => g_X8_gate_L147   2000 v156 x1_63)) else (Option.bind (g_X8_must v151 0) (fun v159 => g_X8_gate_L147   2000 v159 x1_63))) else (Option.bind (g_X8_must v151 0) (fun v162 => g_X8_gate_L147   2000 v162 x1_63))))))))))) (fun z => IM z.2) := by
    intro w63 x1_63 hI_w63
    have : ((w63 36 0 3).toInt = 0 ∧ (w63 36 0 4).toInt = 0) ∨ (0 < (w63 36 0 3).toInt ∧ 0 < (w63 36 0 4).toInt) := hI_w63.2.1
    refine ok_kb2 (k_X8_figure w63 hI_w63 0 9 (by have : (0 : Int32).toInt = 0 := (by decide); omega) (by have : (9 : Int32).toInt = 9 := (by decide); omega)) (fun r164 v165 hr164 => ?_)
    have hr164 : IM v165 ∧ (0 : Int) ≤ Int32.toInt r164 ∧ Int32.toInt r164 ≤ (9 : Int) ∧ (Int32.toInt (v165 37 0 3) = Int32.toInt (w63 37 0 3)) ∧ (Int32.toInt (v165 37 0 4) = Int32.toInt (w63 37 0 4)) ∧ (Int32.toInt (w63 30 0 8) < 0 ∨ 0 ≤ Int32.toInt (v165 30 0 8)) ∧ (Int32.toInt r164 ≤ Int32.toInt 9) := hr164
    obtain ⟨hI_v165, hr164⟩ := hr164
    have : ((v165 36 0 3).toInt = 0 ∧ (v165 36 0 4).toInt = 0) ∨ (0 < (v165 36 0 3).toInt ∧ 0 < (v165 36 0 4).toInt) := hI_v165.2.1
    have : (0 : Int) ≤ (w63 37 0 3).toInt ∧ (w63 37 0 3).toInt ≤ (6 : Int) := hI_w63.1 37 0 3
    have : (0 : Int) ≤ (w63 37 0 4).toInt ∧ (w63 37 0 4).toInt ≤ (4 : Int) := hI_w63.1 37 0 4
    have : (-1 : Int) ≤ (w63 30 0 8).toInt ∧ (w63 30 0 8).toInt ≤ (100 : Int) := hI_w63.1 30 0 8
    have : (0 : Int32).toInt = 0 := (by decide)
    have : (9 : Int32).toInt = 9 := (by decide)
    refine ok_let (fun v166 ev166 => ?_)
    have hI_v166 : IM v166 := by
      rw [ev166]
      refine hI_v165.upo (by decide) ?_
      show (0 : Int) ≤ Int32.toInt r164 ∧ Int32.toInt r164 ≤ (9 : Int)
      omega
    have := i_eq (show v166 30 0 6 = v165 30 0 6 by rw [ev166]; exact up3_t (by decide))
    have := i_eq (show v166 30 0 8 = v165 30 0 8 by rw [ev166]; exact up3_t (by decide))
    have := i_eq (show v166 30 0 9 = v165 30 0 9 by rw [ev166]; exact up3_t (by decide))
    have := i_eq (show v166 30 0 11 = v165 30 0 11 by rw [ev166]; exact up3_t (by decide))
    have := i_eq (show v166 30 0 12 = v165 30 0 12 by rw [ev166]; exact up3_t (by decide))
    have := i_eq (show v166 30 0 17 = v165 30 0 17 by rw [ev166]; exact up3_t (by decide))
    have := i_eq (show v166 36 0 3 = v165 36 0 3 by rw [ev166]; exact up3_t (by decide))
    have := i_eq (show v166 37 0 0 = r164 by rw [ev166]; exact up3_s)
    have := i_eq (show v166 37 0 1 = v165 37 0 1 by rw [ev166]; exact up3_j (by decide))
    have := i_eq (show v166 37 0 2 = v165 37 0 2 by rw [ev166]; exact up3_j (by decide))
    have := i_eq (show v166 37 0 3 = v165 37 0 3 by rw [ev166]; exact up3_j (by decide))
    have := i_eq (show v166 37 0 4 = v165 37 0 4 by rw [ev166]; exact up3_j (by decide))
    have : ((v166 36 0 3).toInt = 0 ∧ (v166 36 0 4).toInt = 0) ∨ (0 < (v166 36 0 3).toInt ∧ 0 < (v166 36 0 4).toInt) := hI_v166.2.1
    refine ok_kb2 (k_X8_follows v166 hI_v166 0 9 (by have : (0 : Int32).toInt = 0 := (by decide); omega) (by have : (9 : Int32).toInt = 9 := (by decide); omega)) (fun r168 v169 hr168 => ?_)
    have hr168 : IM v169 ∧ (0 : Int) ≤ Int32.toInt r168 ∧ Int32.toInt r168 ≤ (9 : Int) ∧ (Int32.toInt (v169 37 0 3) = Int32.toInt (v166 37 0 3)) ∧ (Int32.toInt (v169 37 0 4) = Int32.toInt (v166 37 0 4)) ∧ (Int32.toInt (v166 30 0 8) < 0 ∨ 0 ≤ Int32.toInt (v169 30 0 8)) ∧ (Int32.toInt r168 ≤ Int32.toInt 9) := hr168
    obtain ⟨hI_v169, hr168⟩ := hr168
    have : ((v169 36 0 3).toInt = 0 ∧ (v169 36 0 4).toInt = 0) ∨ (0 < (v169 36 0 3).toInt ∧ 0 < (v169 36 0 4).toInt) := hI_v169.2.1
    have : (0 : Int) ≤ (v166 37 0 3).toInt ∧ (v166 37 0 3).toInt ≤ (6 : Int) := hI_v166.1 37 0 3
    have : (0 : Int) ≤ (v166 37 0 4).toInt ∧ (v166 37 0 4).toInt ≤ (4 : Int) := hI_v166.1 37 0 4
    have : (-1 : Int) ≤ (v166 30 0 8).toInt ∧ (v166 30 0 8).toInt ≤ (100 : Int) := hI_v166.1 30 0 8
    have : (0 : Int32).toInt = 0 := (by decide)
    have : (9 : Int32).toInt = 9 := (by decide)
    refine ok_let (fun v170 ev170 => ?_)
    have hI_v170 : IM v170 := by
      rw [ev170]
      refine hI_v169.upo (by decide) ?_
      show (0 : Int) ≤ Int32.toInt r168 ∧ Int32.toInt r168 ≤ (9 : Int)
      omega
    have := i_eq (show v170 30 0 6 = v169 30 0 6 by rw [ev170]; exact up3_t (by decide))
    have := i_eq (show v170 30 0 8 = v169 30 0 8 by rw [ev170]; exact up3_t (by decide))
    have := i_eq (show v170 30 0 9 = v169 30 0 9 by rw [ev170]; exact up3_t (by decide))
    have := i_eq (show v170 30 0 11 = v169 30 0 11 by rw [ev170]; exact up3_t (by decide))
    have := i_eq (show v170 30 0 12 = v169 30 0 12 by rw [ev170]; exact up3_t (by decide))
    have := i_eq (show v170 30 0 17 = v169 30 0 17 by rw [ev170]; exact up3_t (by decide))
    have := i_eq (show v170 36 0 3 = v169 36 0 3 by rw [ev170]; exact up3_t (by decide))
    have := i_eq (show v170 37 0 0 = v169 37 0 0 by rw [ev170]; exact up3_j (by decide))
    have := i_eq (show v170 37 0 1 = r168 by rw [ev170]; exact up3_s)
    have := i_eq (show v170 37 0 2 = v169 37 0 2 by rw [ev170]; exact up3_j (by decide))
    have := i_eq (show v170 37 0 3 = v169 37 0 3 by rw [ev170]; exact up3_j (by decide))
    have := i_eq (show v170 37 0 4 = v169 37 0 4 by rw [ev170]; exact up3_j (by decide))
    have : ((v170 36 0 3).toInt = 0 ∧ (v170 36 0 4).toInt = 0) ∨ (0 < (v170 36 0 3).toInt ∧ 0 < (v170 36 0 4).toInt) := hI_v170.2.1
    refine ok_kb2 (k_X8_follows v170 hI_v170 0 6 (by have : (0 : Int32).toInt = 0 := (by decide); omega) (by have : (6 : Int32).toInt = 6 := (by decide); omega)) (fun r172 v173 hr172 => ?_)
    have hr172 : IM v173 ∧ (0 : Int) ≤ Int32.toInt r172 ∧ Int32.toInt r172 ≤ (9 : Int) ∧ (Int32.toInt (v173 37 0 3) = Int32.toInt (v170 37 0 3)) ∧ (Int32.toInt (v173 37 0 4) = Int32.toInt (v170 37 0 4)) ∧ (Int32.toInt (v170 30 0 8) < 0 ∨ 0 ≤ Int32.toInt (v173 30 0 8)) ∧ (Int32.toInt r172 ≤ Int32.toInt 6) := hr172
    obtain ⟨hI_v173, hr172⟩ := hr172
    have : ((v173 36 0 3).toInt = 0 ∧ (v173 36 0 4).toInt = 0) ∨ (0 < (v173 36 0 3).toInt ∧ 0 < (v173 36 0 4).toInt) := hI_v173.2.1
    have : (0 : Int) ≤ (v170 37 0 3).toInt ∧ (v170 37 0 3).toInt ≤ (6 : Int) := hI_v170.1 37 0 3
    have : (0 : Int) ≤ (v170 37 0 4).toInt ∧ (v170 37 0 4).toInt ≤ (4 : Int) := hI_v170.1 37 0 4
    have : (-1 : Int) ≤ (v170 30 0 8).toInt ∧ (v170 30 0 8).toInt ≤ (100 : Int) := hI_v170.1 30 0 8
    have : (0 : Int32).toInt = 0 := (by decide)
    have : (6 : Int32).toInt = 6 := (by decide)
    refine ok_let (fun v174 ev174 => ?_)
    have hI_v174 : IM v174 := by
      rw [ev174]
      refine hI_v173.upo (by decide) ?_
      show (0 : Int) ≤ Int32.toInt r172 ∧ Int32.toInt r172 ≤ (6 : Int)
      omega
    have := i_eq (show v174 30 0 6 = v173 30 0 6 by rw [ev174]; exact up3_t (by decide))
    have := i_eq (show v174 30 0 8 = v173 30 0 8 by rw [ev174]; exact up3_t (by decide))
    have := i_eq (show v174 30 0 9 = v173 30 0 9 by rw [ev174]; exact up3_t (by decide))
    have := i_eq (show v174 30 0 11 = v173 30 0 11 by rw [ev174]; exact up3_t (by decide))
    have := i_eq (show v174 30 0 12 = v173 30 0 12 by rw [ev174]; exact up3_t (by decide))
    have := i_eq (show v174 30 0 17 = v173 30 0 17 by rw [ev174]; exact up3_t (by decide))
    have := i_eq (show v174 36 0 3 = v173 36 0 3 by rw [ev174]; exact up3_t (by decide))
    have := i_eq (show v174 37 0 0 = v173 37 0 0 by rw [ev174]; exact up3_j (by decide))
    have := i_eq (show v174 37 0 1 = v173 37 0 1 by rw [ev174]; exact up3_j (by decide))
    have := i_eq (show v174 37 0 2 = r172 by rw [ev174]; exact up3_s)
    have := i_eq (show v174 37 0 3 = v173 37 0 3 by rw [ev174]; exact up3_j (by decide))
    have := i_eq (show v174 37 0 4 = v173 37 0 4 by rw [ev174]; exact up3_j (by decide))
    have : ((v174 36 0 3).toInt = 0 ∧ (v174 36 0 4).toInt = 0) ∨ (0 < (v174 36 0 3).toInt ∧ 0 < (v174 36 0 4).toInt) := hI_v174.2.1
    refine ok_ite _ (fun c175 => ?_) (fun c175 => ?_)
    · skip
      have ic175 := i_eq c175
      have : (0 : Int) ≤ (v174 30 0 11).toInt ∧ (v174 30 0 11).toInt ≤ (5 : Int) := hI_v174.1 30 0 11
      have : (4 : Int32).toInt = 4 := (by decide)
      refine ok_kb2 (k_X8_takes v174 hI_v174 1 1 ) (fun r177 v178 hr177 => ?_)
      have hr177 : IM v178 ∧ (Int32.toInt (v178 37 0 3) = Int32.toInt (v174 37 0 3)) ∧ (Int32.toInt (v178 37 0 4) = Int32.toInt (v174 37 0 4)) ∧ (Int32.toInt (v174 30 0 8) < 0 ∨ 0 ≤ Int32.toInt (v178 30 0 8)) ∧ (¬ Int32.toInt 1 = 0 ∨ 0 ≤ Int32.toInt (v178 30 0 8)) ∧ (Int32.toInt r177 = 0 ∨ (Int32.toInt r177 = Int32.toInt (v174 30 0 12) ∧ ¬ Int32.toInt 1 = 0)) := hr177
      obtain ⟨hI_v178, hr177⟩ := hr177
      have : ((v178 36 0 3).toInt = 0 ∧ (v178 36 0 4).toInt = 0) ∨ (0 < (v178 36 0 3).toInt ∧ 0 < (v178 36 0 4).toInt) := hI_v178.2.1
      have : (0 : Int) ≤ (v174 37 0 3).toInt ∧ (v174 37 0 3).toInt ≤ (6 : Int) := hI_v174.1 37 0 3
      have : (0 : Int) ≤ (v174 37 0 4).toInt ∧ (v174 37 0 4).toInt ≤ (4 : Int) := hI_v174.1 37 0 4
      have : (-1 : Int) ≤ (v174 30 0 8).toInt ∧ (v174 30 0 8).toInt ≤ (100 : Int) := hI_v174.1 30 0 8
      have : (1 : Int32).toInt = 1 := (by decide)
      exact join121 v178 x1_63 hI_v178 
    · skip
      have ic175 := i_ne c175
      have : (0 : Int) ≤ (v174 30 0 11).toInt ∧ (v174 30 0 11).toInt ≤ (5 : Int) := hI_v174.1 30 0 11
      have : (4 : Int32).toInt = 4 := (by decide)
      refine ok_kb2 (k_X8_takes v174 hI_v174 0 1 ) (fun r180 v181 hr180 => ?_)
      have hr180 : IM v181 ∧ (Int32.toInt (v181 37 0 3) = Int32.toInt (v174 37 0 3)) ∧ (Int32.toInt (v181 37 0 4) = Int32.toInt (v174 37 0 4)) ∧ (Int32.toInt (v174 30 0 8) < 0 ∨ 0 ≤ Int32.toInt (v181 30 0 8)) ∧ (¬ Int32.toInt 0 = 0 ∨ 0 ≤ Int32.toInt (v181 30 0 8)) ∧ (Int32.toInt r180 = 0 ∨ (Int32.toInt r180 = Int32.toInt (v174 30 0 12) ∧ ¬ Int32.toInt 0 = 0)) := hr180
      obtain ⟨hI_v181, hr180⟩ := hr180
      have : ((v181 36 0 3).toInt = 0 ∧ (v181 36 0 4).toInt = 0) ∨ (0 < (v181 36 0 3).toInt ∧ 0 < (v181 36 0 4).toInt) := hI_v181.2.1
      have : (0 : Int) ≤ (v174 37 0 3).toInt ∧ (v174 37 0 3).toInt ≤ (6 : Int) := hI_v174.1 37 0 3
      have : (0 : Int) ≤ (v174 37 0 4).toInt ∧ (v174 37 0 4).toInt ≤ (4 : Int) := hI_v174.1 37 0 4
      have : (-1 : Int) ≤ (v174 30 0 8).toInt ∧ (v174 30 0 8).toInt ≤ (100 : Int) := hI_v174.1 30 0 8
      have : (0 : Int32).toInt = 0 := (by decide)
      have : (1 : Int32).toInt = 1 := (by decide)
      exact join121 v181 x1_63 hI_v181 
  have loop2 : ∀ (n2 : Nat) (w2 : Mm) (x1_2 : Int32), (IM w2) → ((0 : Int) ≤ Int32.toInt x1_2 ∧ Int32.toInt x1_2 ≤ (65 : Int)) → (65 - Int32.toInt x1_2 < (n2 : Int)) → ok (g_X8_gate_L2   n2 w2 x1_2) (fun z => IM z.2) := by
    intro n2
    induction n2 with
    | zero =>
      intro w2 x1_2 hI_w2 hv0_2 hm2
      exfalso
      omega
    | succ n2 ih2 =>
      intro w2 x1_2 hI_w2 hv0_2 hm2
      show ok (b_X8_gate_L2  (g_X8_gate_L2   n2)  w2 x1_2) _
      unfold b_X8_gate_L2
      try rw [tc_0]
      try rw [tc_1]
      try rw [tc_2]
      try rw [tc_3]
      have : ((w2 36 0 3).toInt = 0 ∧ (w2 36 0 4).toInt = 0) ∨ (0 < (w2 36 0 3).toInt ∧ 0 < (w2 36 0 4).toInt) := hI_w2.2.1
      refine ok_ite _ (fun c182 => ?_) (fun c182 => ?_)
      · skip
        have ic182 := i_le c182
        have : (65 : Int32).toInt = 65 := (by decide)
        refine ok_let (fun v183 ev183 => ?_)
        have hI_v183 : IM v183 := by
          rw [ev183]
          refine hI_w2.upo (by decide) ?_
          show (0 : Int) ≤ Int32.toInt (0 : Int32) ∧ Int32.toInt (0 : Int32) ≤ (100 : Int)
          have : (0 : Int32).toInt = 0 := (by decide)
          omega
        have := i_eq (show v183 30 0 6 = w2 30 0 6 by rw [ev183]; exact up3_j (by decide))
        have := i_eq (show v183 30 0 8 = w2 30 0 8 by rw [ev183]; exact up3_j (by decide))
        have := i_eq (show v183 30 0 9 = 0 by rw [ev183]; exact up3_s)
        have : (0 : Int32).toInt = 0 := (by decide)
        have := i_eq (show v183 30 0 11 = w2 30 0 11 by rw [ev183]; exact up3_j (by decide))
        have := i_eq (show v183 30 0 12 = w2 30 0 12 by rw [ev183]; exact up3_j (by decide))
        have := i_eq (show v183 30 0 17 = w2 30 0 17 by rw [ev183]; exact up3_j (by decide))
        have := i_eq (show v183 36 0 3 = w2 36 0 3 by rw [ev183]; exact up3_t (by decide))
        have := i_eq (show v183 37 0 0 = w2 37 0 0 by rw [ev183]; exact up3_t (by decide))
        have := i_eq (show v183 37 0 1 = w2 37 0 1 by rw [ev183]; exact up3_t (by decide))
        have := i_eq (show v183 37 0 2 = w2 37 0 2 by rw [ev183]; exact up3_t (by decide))
        have := i_eq (show v183 37 0 3 = w2 37 0 3 by rw [ev183]; exact up3_t (by decide))
        have := i_eq (show v183 37 0 4 = w2 37 0 4 by rw [ev183]; exact up3_t (by decide))
        have : ((v183 36 0 3).toInt = 0 ∧ (v183 36 0 4).toInt = 0) ∨ (0 < (v183 36 0 3).toInt ∧ 0 < (v183 36 0 4).toInt) := hI_v183.2.1
        refine ok_let (fun v184 ev184 => ?_)
        have hI_v184 : IM v184 := by
          rw [ev184]
          refine hI_v183.upo (by decide) ?_
          show (-1 : Int) ≤ Int32.toInt (-1 : Int32) ∧ Int32.toInt (-1 : Int32) ≤ (100 : Int)
          have : (-1 : Int32).toInt = -1 := (by decide)
          omega
        have := i_eq (show v184 30 0 6 = v183 30 0 6 by rw [ev184]; exact up3_j (by decide))
        have := i_eq (show v184 30 0 8 = ((-1)) by rw [ev184]; exact up3_s)
        have : (-1 : Int32).toInt = -1 := (by decide)
        have := i_eq (show v184 30 0 9 = v183 30 0 9 by rw [ev184]; exact up3_j (by decide))
        have := i_eq (show v184 30 0 11 = v183 30 0 11 by rw [ev184]; exact up3_j (by decide))
        have := i_eq (show v184 30 0 12 = v183 30 0 12 by rw [ev184]; exact up3_j (by decide))
        have := i_eq (show v184 30 0 17 = v183 30 0 17 by rw [ev184]; exact up3_j (by decide))
        have := i_eq (show v184 36 0 3 = v183 36 0 3 by rw [ev184]; exact up3_t (by decide))
        have := i_eq (show v184 37 0 0 = v183 37 0 0 by rw [ev184]; exact up3_t (by decide))
        have := i_eq (show v184 37 0 1 = v183 37 0 1 by rw [ev184]; exact up3_t (by decide))
        have := i_eq (show v184 37 0 2 = v183 37 0 2 by rw [ev184]; exact up3_t (by decide))
        have := i_eq (show v184 37 0 3 = v183 37 0 3 by rw [ev184]; exact up3_t (by decide))
        have := i_eq (show v184 37 0 4 = v183 37 0 4 by rw [ev184]; exact up3_t (by decide))
        have : ((v184 36 0 3).toInt = 0 ∧ (v184 36 0 4).toInt = 0) ∨ (0 < (v184 36 0 3).toInt ∧ 0 < (v184 36 0 4).toInt) := hI_v184.2.1
        refine ok_bind (k_X8_advances v184 hI_v184  ) (fun v187 hr186 => ?_)
        have hr186 : IM v187 ∧ (Int32.toInt (v187 37 0 3) = Int32.toInt (v184 37 0 3)) ∧ (Int32.toInt (v187 37 0 4) = Int32.toInt (v184 37 0 4)) ∧ (Int32.toInt (v187 30 0 8) = Int32.toInt (v184 30 0 8)) := hr186
        obtain ⟨hI_v187, hr186⟩ := hr186
        have : ((v187 36 0 3).toInt = 0 ∧ (v187 36 0 4).toInt = 0) ∨ (0 < (v187 36 0 3).toInt ∧ 0 < (v187 36 0 4).toInt) := hI_v187.2.1
        have : (0 : Int) ≤ (v184 37 0 3).toInt ∧ (v184 37 0 3).toInt ≤ (6 : Int) := hI_v184.1 37 0 3
        have : (0 : Int) ≤ (v184 37 0 4).toInt ∧ (v184 37 0 4).toInt ≤ (4 : Int) := hI_v184.1 37 0 4
        have : (-1 : Int) ≤ (v184 30 0 8).toInt ∧ (v184 30 0 8).toInt ≤ (100 : Int) := hI_v184.1 30 0 8
        refine ok_ite _ (fun c188 => ?_) (fun c188 => ?_)
        · skip
          have ic188 := i_eq c188
          have : (0 : Int) ≤ (v187 30 0 11).toInt ∧ (v187 30 0 11).toInt ≤ (5 : Int) := hI_v187.1 30 0 11
          have : (1 : Int32).toInt = 1 := (by decide)
          refine ok_ite _ (fun c189 => ?_) (fun c189 => ?_)
          · skip
            have ic189 := i_eq c189
            have : (113 : Int32).toInt = 113 := (by decide)
            refine ok_kb2 (k_X8_takes v187 hI_v187 1 1 ) (fun r191 v192 hr191 => ?_)
            have hr191 : IM v192 ∧ (Int32.toInt (v192 37 0 3) = Int32.toInt (v187 37 0 3)) ∧ (Int32.toInt (v192 37 0 4) = Int32.toInt (v187 37 0 4)) ∧ (Int32.toInt (v187 30 0 8) < 0 ∨ 0 ≤ Int32.toInt (v192 30 0 8)) ∧ (¬ Int32.toInt 1 = 0 ∨ 0 ≤ Int32.toInt (v192 30 0 8)) ∧ (Int32.toInt r191 = 0 ∨ (Int32.toInt r191 = Int32.toInt (v187 30 0 12) ∧ ¬ Int32.toInt 1 = 0)) := hr191
            obtain ⟨hI_v192, hr191⟩ := hr191
            have : ((v192 36 0 3).toInt = 0 ∧ (v192 36 0 4).toInt = 0) ∨ (0 < (v192 36 0 3).toInt ∧ 0 < (v192 36 0 4).toInt) := hI_v192.2.1
            have : (0 : Int) ≤ (v187 37 0 3).toInt ∧ (v187 37 0 3).toInt ≤ (6 : Int) := hI_v187.1 37 0 3
            have : (0 : Int) ≤ (v187 37 0 4).toInt ∧ (v187 37 0 4).toInt ≤ (4 : Int) := hI_v187.1 37 0 4
            have : (-1 : Int) ≤ (v187 30 0 8).toInt ∧ (v187 30 0 8).toInt ≤ (100 : Int) := hI_v187.1 30 0 8
            have : (1 : Int32).toInt = 1 := (by decide)
            exact join63 v192 x1_2 hI_v192 
          · skip
            have ic189 := i_ne c189
            have : (113 : Int32).toInt = 113 := (by decide)
            refine ok_kb2 (k_X8_takes v187 hI_v187 0 1 ) (fun r194 v195 hr194 => ?_)
            have hr194 : IM v195 ∧ (Int32.toInt (v195 37 0 3) = Int32.toInt (v187 37 0 3)) ∧ (Int32.toInt (v195 37 0 4) = Int32.toInt (v187 37 0 4)) ∧ (Int32.toInt (v187 30 0 8) < 0 ∨ 0 ≤ Int32.toInt (v195 30 0 8)) ∧ (¬ Int32.toInt 0 = 0 ∨ 0 ≤ Int32.toInt (v195 30 0 8)) ∧ (Int32.toInt r194 = 0 ∨ (Int32.toInt r194 = Int32.toInt (v187 30 0 12) ∧ ¬ Int32.toInt 0 = 0)) := hr194
            obtain ⟨hI_v195, hr194⟩ := hr194
            have : ((v195 36 0 3).toInt = 0 ∧ (v195 36 0 4).toInt = 0) ∨ (0 < (v195 36 0 3).toInt ∧ 0 < (v195 36 0 4).toInt) := hI_v195.2.1
            have : (0 : Int) ≤ (v187 37 0 3).toInt ∧ (v187 37 0 3).toInt ≤ (6 : Int) := hI_v187.1 37 0 3
            have : (0 : Int) ≤ (v187 37 0 4).toInt ∧ (v187 37 0 4).toInt ≤ (4 : Int) := hI_v187.1 37 0 4
            have : (-1 : Int) ≤ (v187 30 0 8).toInt ∧ (v187 30 0 8).toInt ≤ (100 : Int) := hI_v187.1 30 0 8
            have : (0 : Int32).toInt = 0 := (by decide)
            have : (1 : Int32).toInt = 1 := (by decide)
            exact join63 v195 x1_2 hI_v195 
        · skip
          have ic188 := i_ne c188
          have : (0 : Int) ≤ (v187 30 0 11).toInt ∧ (v187 30 0 11).toInt ≤ (5 : Int) := hI_v187.1 30 0 11
          have : (1 : Int32).toInt = 1 := (by decide)
          refine ok_kb2 (k_X8_takes v187 hI_v187 0 1 ) (fun r197 v198 hr197 => ?_)
          have hr197 : IM v198 ∧ (Int32.toInt (v198 37 0 3) = Int32.toInt (v187 37 0 3)) ∧ (Int32.toInt (v198 37 0 4) = Int32.toInt (v187 37 0 4)) ∧ (Int32.toInt (v187 30 0 8) < 0 ∨ 0 ≤ Int32.toInt (v198 30 0 8)) ∧ (¬ Int32.toInt 0 = 0 ∨ 0 ≤ Int32.toInt (v198 30 0 8)) ∧ (Int32.toInt r197 = 0 ∨ (Int32.toInt r197 = Int32.toInt (v187 30 0 12) ∧ ¬ Int32.toInt 0 = 0)) := hr197
          obtain ⟨hI_v198, hr197⟩ := hr197
          have : ((v198 36 0 3).toInt = 0 ∧ (v198 36 0 4).toInt = 0) ∨ (0 < (v198 36 0 3).toInt ∧ 0 < (v198 36 0 4).toInt) := hI_v198.2.1
          have : (0 : Int) ≤ (v187 37 0 3).toInt ∧ (v187 37 0 3).toInt ≤ (6 : Int) := hI_v187.1 37 0 3
          have : (0 : Int) ≤ (v187 37 0 4).toInt ∧ (v187 37 0 4).toInt ≤ (4 : Int) := hI_v187.1 37 0 4
          have : (-1 : Int) ≤ (v187 30 0 8).toInt ∧ (v187 30 0 8).toInt ≤ (100 : Int) := hI_v187.1 30 0 8
          have : (0 : Int32).toInt = 0 := (by decide)
          have : (1 : Int32).toInt = 1 := (by decide)
          exact join63 v198 x1_2 hI_v198 
      · skip
        have ic182 := i_nle c182
        have : (65 : Int32).toInt = 65 := (by decide)
        refine ok_grd _ ?_ ?_
        · skip
          exact gr (by omega) (by omega)
        refine ok_let (fun v200 ev200 => ?_)
        have : (0 : Int32).toInt = 0 := (by decide)
        have hI_v200 : IM v200 := by
          rw [ev200]
          first | exact hI_w2.um7 (by omega) (by omega) | exact hI_w2.u07
        have := i_eq (show v200 30 0 6 = w2 30 0 6 by rw [ev200]; exact up3_t (by decide))
        have := i_eq (show v200 30 0 8 = w2 30 0 8 by rw [ev200]; exact up3_t (by decide))
        have := i_eq (show v200 30 0 9 = w2 30 0 9 by rw [ev200]; exact up3_t (by decide))
        have := i_eq (show v200 30 0 11 = w2 30 0 11 by rw [ev200]; exact up3_t (by decide))
        have := i_eq (show v200 30 0 12 = w2 30 0 12 by rw [ev200]; exact up3_t (by decide))
        have := i_eq (show v200 30 0 17 = w2 30 0 17 by rw [ev200]; exact up3_t (by decide))
        have := i_eq (show v200 36 0 3 = w2 36 0 3 by rw [ev200]; exact up3_t (by decide))
        (try have := i_eq (show v200 37 0 0 = w2 37 0 0 by rw [ev200]; exact up3_j (tcne (by omega) (by omega))))
        (try have := i_eq (show v200 37 0 1 = w2 37 0 1 by rw [ev200]; exact up3_j (tcne (by omega) (by omega))))
        (try have := i_eq (show v200 37 0 2 = w2 37 0 2 by rw [ev200]; exact up3_j (tcne (by omega) (by omega))))
        (try have := i_eq (show v200 37 0 3 = w2 37 0 3 by rw [ev200]; exact up3_j (tcne (by omega) (by omega))))
        (try have := i_eq (show v200 37 0 4 = w2 37 0 4 by rw [ev200]; exact up3_j (tcne (by omega) (by omega))))
        have : ((v200 36 0 3).toInt = 0 ∧ (v200 36 0 4).toInt = 0) ∨ (0 < (v200 36 0 3).toInt ∧ 0 < (v200 36 0 4).toInt) := hI_v200.2.1
        have : (1 : Int32).toInt = 1 := (by decide)
        have := i_bd x1_2
        (first | have := sp_addx x1_2 (1 : Int32) (by omega) | obtain ⟨k5, hk5⟩ := sp_add x1_2 (1 : Int32))
        exact ih2 v200 (x1_2 + 1) hI_v200 (by omega) (by omega)
  unfold g_X8_gate
  try rw [tc_0]
  try rw [tc_1]
  try rw [tc_2]
  try rw [tc_3]
  have : (0 : Int32).toInt = 0 := (by decide)
  exact loop2 2000 v 0 hI_v (by omega) (by omega)
set_option maxHeartbeats 4000000 in
theorem k_X8_fault (v : Mm) (hI_v : IM v)  : ok (g_X8_fault v ) (fun z => True) := by
  have : ((v 36 0 3).toInt = 0 ∧ (v 36 0 4).toInt = 0) ∨ (0 < (v 36 0 3).toInt ∧ 0 < (v 36 0 4).toInt) := hI_v.2.1
  unfold g_X8_fault
  refine ok_some ?_
  show True
  trivial
